import java.util.ArrayList;
import java.util.HashMap;
import java.util.List;
import java.util.Map;
import java.util.Random;
import java.util.Set;
import java.util.TreeSet;

/**
 * Long runs of made-up calls, each answered by SnapshotDesk and by a model that keeps the document's
 * terms as sets (what belongs to a level, what a commit committed, what commits a snapshot has).
 * The seeds are fixed, so every run of this test makes the same calls. A third of the runs has calls of all
 * kinds, a third goes to the last levels again and again, and a third commits often.
 */
public final class SnapshotDeskAgainstModel {
    private static final int RUNS = 4000;
    private static final int CALLS = 512;
    private static final int MIXED = 0;
    private static final int DEEP = 1;
    private static final int FLAVOURS = 3;
    private static final int[] DEEP_KINDS = {2, 3, 3, 3, 3, 3, 4, 5};
    private static final int[] ODD = {-1, 6, 8, 4000, 4001, Integer.MIN_VALUE, Integer.MAX_VALUE};

    private static final class Level {
        int number;
        final Set<Integer> belongs = new TreeSet<>();
    }

    private static final class Work {
        int mode;
        int command;
        Set<Integer> snapshot;
        final List<Level> levels = new ArrayList<>();
        final Set<Integer> all = new TreeSet<>();
    }

    private static final class Model {
        final Map<Integer, Work> works = new HashMap<>();
        final List<Set<Integer>> commits = new ArrayList<>();
        final Set<Integer> running = new TreeSet<>();
        final Set<Integer> aborted = new TreeSet<>();
        final Map<Integer, Integer> roots = new HashMap<>();
        int last = 0;

        int begin(int s, int mode) {
            if (s < 0 || s > 5 || works.containsKey(s) || (mode != 0 && mode != 1)) {
                return 0;
            }
            Work w = new Work();
            w.mode = mode;
            w.levels.add(new Level());
            works.put(s, w);
            return 1;
        }

        int statement(int s) {
            Work w = works.get(s);
            if (w == null) {
                return -1;
            }
            w.command += 1;
            if (w.mode == 0 || w.snapshot == null) {
                w.snapshot = new TreeSet<>();
                for (int c = 1; c <= commits.size(); c++) {
                    w.snapshot.add(c);
                }
            }
            return w.command;
        }

        int number(int s) {
            Work w = works.get(s);
            if (w == null) {
                return -1;
            }
            for (Level level : w.levels) {
                if (level.number == 0) {
                    level.number = ++last;
                    level.belongs.add(last);
                    w.all.add(last);
                    running.add(last);
                    roots.put(last, w.levels.get(0).number);
                }
            }
            return w.levels.get(w.levels.size() - 1).number;
        }

        int save(int s) {
            Work w = works.get(s);
            if (w == null || w.levels.size() == 8) {
                return -1;
            }
            w.levels.add(new Level());
            return w.levels.size() - 1;
        }

        int release(int s, int k) {
            Work w = works.get(s);
            if (w == null || k <= 0 || k >= w.levels.size()) {
                return 0;
            }
            while (w.levels.size() > k) {
                Level gone = w.levels.remove(w.levels.size() - 1);
                w.levels.get(w.levels.size() - 1).belongs.addAll(gone.belongs);
            }
            return 1;
        }

        int back(int s, int k) {
            Work w = works.get(s);
            if (w == null || k <= 0 || k >= w.levels.size()) {
                return 0;
            }
            while (w.levels.size() > k) {
                abortAll(w.levels.remove(w.levels.size() - 1).belongs);
            }
            w.levels.add(new Level());
            return 1;
        }

        void abortAll(Set<Integer> numbers) {
            for (int n : numbers) {
                if (running.remove(n)) {
                    aborted.add(n);
                }
            }
        }

        int commit(int s) {
            Work w = works.remove(s);
            if (w == null) {
                return -1;
            }
            Set<Integer> committed = new TreeSet<>(w.all);
            committed.retainAll(running);
            if (committed.isEmpty()) {
                return 0;
            }
            running.removeAll(committed);
            commits.add(committed);
            return commits.size();
        }

        int abort(int s) {
            Work w = works.remove(s);
            if (w == null) {
                return 0;
            }
            abortAll(w.all);
            return 1;
        }

        int crash() {
            aborted.addAll(running);
            running.clear();
            works.clear();
            return 0;
        }

        int state(int n) {
            return running.contains(n) ? 1 : aborted.contains(n) ? 3 : place(n) > 0 ? 2 : 0;
        }

        int place(int n) {
            for (int c = 1; c <= commits.size(); c++) {
                if (commits.get(c - 1).contains(n)) {
                    return c;
                }
            }
            return 0;
        }

        boolean seesWhat(Work w, int n, int command) {
            if (aborted.contains(n)) {
                return false;
            }
            return w.all.contains(n) ? command < w.command : w.snapshot.contains(place(n));
        }

        int sees(int s, int made, int command, int ended, int endCommand) {
            Work w = works.get(s);
            if (w == null || w.snapshot == null || state(made) == 0) {
                return 0;
            }
            boolean end = state(ended) != 0 && seesWhat(w, ended, endCommand);
            return seesWhat(w, made, command) && !end ? 1 : 0;
        }

        int ending(int s, int ended, int command) {
            Work w = works.get(s);
            if (w == null || w.snapshot == null) {
                return -1;
            }
            if (state(ended) == 0 || state(ended) == 3) {
                return 0;
            }
            int unseen = seesWhat(w, ended, command) ? 0 : 1;
            if (w.all.contains(ended)) {
                return 1 + unseen;
            }
            return state(ended) == 1 ? 3 : 4 + unseen;
        }

        int dead(int made, int ended) {
            if (state(made) == 0) {
                return 0;
            }
            if (state(made) == 3) {
                return 1;
            }
            boolean everywhere = state(ended) == 2;
            for (Work w : works.values()) {
                everywhere &= w.snapshot == null || w.snapshot.contains(place(ended));
            }
            return everywhere ? 1 : 0;
        }

        int look(int s, int what) {
            Work w = works.get(s);
            if (what == 5) {
                return last;
            }
            if (what == 6) {
                return commits.size();
            }
            if (w == null) {
                return -1;
            }
            switch (what) {
                case 0: return w.mode;
                case 1: return w.command;
                case 2: return w.levels.size() - 1;
                case 3: return w.levels.get(w.levels.size() - 1).number;
                case 4: return w.snapshot == null ? -1 : w.snapshot.size();
                default: return -1;
            }
        }
    }

    private static int wrong = 0;
    private static final boolean[][] SEEN = new boolean[16][8];
    /** How often level k was released, and gone back to. */
    private static final int[][] LEFT = new int[6][8];
    private static int mostCommits = 0;

    public static void main(String[] args) {
        for (int run = 0; run < RUNS && wrong < 20; run++) {
            oneRun(run);
        }
        checkCoverage();
        System.out.println(wrong == 0 ? "all answers are as the model's" : wrong + " answers are not as the model's");
        if (wrong != 0) {
            System.exit(1);
        }
    }

    private static void oneRun(int seed) {
        Random random = new Random(seed);
        SnapshotDesk desk = new SnapshotDesk();
        Model model = new Model();
        int flavour = seed % FLAVOURS;
        // Few sessions make deep transactions, many make snapshots that differ.
        int sessions = 1 + random.nextInt(flavour == DEEP ? 2 : 6);
        for (int call = 0; call < CALLS; call++) {
            int s = pick(random, 0, sessions - 1);
            int kind = pickKind(random, flavour, model.works.get(s));
            int[] a = {pickFirst(random, kind, flavour, model), pick(random, 0, 4), pick(random, 0, model.last + 1),
                pick(random, 0, 4)};
            int got = askDesk(desk, kind, s, a);
            int want = askModel(model, kind, s, a);
            SEEN[kind][Math.min(want + 1, 7)] = true;
            if ((kind == 4 || kind == 5) && want == 1) {
                LEFT[kind][a[0]]++;
            }
            mostCommits = Math.max(mostCommits, model.commits.size());
            if (got != want) {
                wrong++;
                System.out.println("seed " + seed + ", call " + call + ": kind " + kind + " of session " + s + " with "
                    + a[0] + ", " + a[1] + ", " + a[2] + ", " + a[3] + " answered " + got + ", due is " + want);
                return;
            }
        }
    }

    /** Calls that end a transaction are rare, so that levels and snapshots have time to grow. */
    private static int pickKind(Random random, int flavour, Work w) {
        if (flavour != MIXED && random.nextInt(10) < 7) {
            return flavour == DEEP ? DEEP_KINDS[random.nextInt(DEEP_KINDS.length)] : nextToACommit(w);
        }
        int kind = random.nextInt(16);
        if (kind >= 6 && kind <= 7 && random.nextInt(3) != 0 || kind == 8 && random.nextInt(30) != 0) {
            return random.nextInt(6);
        }
        return kind;
    }

    private static int nextToACommit(Work w) {
        return w == null ? 0 : w.all.isEmpty() ? 2 : 6;
    }

    private static int pick(Random random, int low, int high) {
        return random.nextInt(40) == 0 ? ODD[random.nextInt(ODD.length)] : low + random.nextInt(high - low + 1);
    }

    private static int pickFirst(Random random, int kind, int flavour, Model model) {
        if (kind == 0) {
            return pick(random, 0, 1);
        }
        if (flavour == DEEP && (kind == 4 || kind == 5)) {
            return pick(random, random.nextInt(8), 7);
        }
        if (kind == 4 || kind == 5 || kind == 15) {
            return pick(random, 0, 7);
        }
        return pick(random, 0, model.last + 1);
    }

    private static int bit(boolean b) {
        return b ? 1 : 0;
    }

    private static int askDesk(SnapshotDesk x, int kind, int s, int[] a) {
        switch (kind) {
            case 0: return bit(x.begin(s, a[0]));
            case 1: return x.statement(s);
            case 2: return x.number(s);
            case 3: return x.save(s);
            case 4: return bit(x.release(s, a[0]));
            case 5: return bit(x.back(s, a[0]));
            case 6: return x.commit(s);
            case 7: return bit(x.abort(s));
            case 8: x.crash(); return 0;
            case 9: return x.state(a[0]);
            case 10: return x.root(a[0]);
            case 11: return x.place(a[0]);
            case 12: return bit(x.sees(s, a[0], a[1], a[2], a[3]));
            case 13: return x.ending(s, a[0], a[1]);
            case 14: return bit(x.dead(a[0], a[2]));
            default: return x.look(s, a[0]);
        }
    }

    private static int askModel(Model m, int kind, int s, int[] a) {
        switch (kind) {
            case 0: return m.begin(s, a[0]);
            case 1: return m.statement(s);
            case 2: return m.number(s);
            case 3: return m.save(s);
            case 4: return m.release(s, a[0]);
            case 5: return m.back(s, a[0]);
            case 6: return m.commit(s);
            case 7: return m.abort(s);
            case 8: return m.crash();
            case 9: return m.state(a[0]);
            case 10: return m.roots.getOrDefault(a[0], 0);
            case 11: return m.place(a[0]);
            case 12: return m.sees(s, a[0], a[1], a[2], a[3]);
            case 13: return m.ending(s, a[0], a[1]);
            case 14: return m.dead(a[0], a[2]);
            default: return m.look(s, a[0]);
        }
    }

    /** Runs that never reach an answer would prove nothing about it. */
    private static void checkCoverage() {
        // For each kind, the least and the greatest answer that the runs must have had (a 6 stands for 6 and more).
        int[][] reached = {{0, 1}, {-1, 6}, {-1, 6}, {-1, 6}, {0, 1}, {0, 1}, {-1, 6}, {0, 1}, {0, 0}, {0, 3}, {0, 6},
            {0, 6}, {0, 1}, {-1, 5}, {0, 1}, {-1, 6}};
        for (int kind = 0; kind < reached.length; kind++) {
            for (int answer = reached[kind][0]; answer <= reached[kind][1]; answer++) {
                boolean never = kind == 1 || kind == 2 || kind == 3 ? answer == 0 : false;
                if (!never && !SEEN[kind][answer + 1]) {
                    wrong++;
                    System.out.println("kind " + kind + " never answered " + answer);
                }
            }
        }
        for (int k = 1; k <= 7; k++) {
            if (LEFT[4][k] < 1000 || LEFT[5][k] < 1000) {
                wrong++;
                System.out.println("level " + k + " was seldom released or gone back to");
            }
        }
        if (mostCommits < 100) {
            wrong++;
            System.out.println("no run had more than " + mostCommits + " commits");
        }
    }
}
