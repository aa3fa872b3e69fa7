import java.util.ArrayList;

/** Transactions of six sessions side by side; ../shared/DOC.md says what each call answers. */
public final class SnapshotDesk {
    private static final int SESSIONS = 6;
    private static final int MODES = 2;
    private static final int LEVELS = 8;
    private static final int NUMBERS = 4000;

    private static final int SNAPSHOT_FOR_EACH_STATEMENT = 0;
    private static final int NO_SNAPSHOT = -1;
    private static final int NO_NUMBER = 0;
    private static final int REFUSED = -1;

    private static final int NOT_GIVEN = 0;
    private static final int RUNNING = 1;
    private static final int COMMITTED = 2;
    private static final int ABORTED = 3;

    private static final int END_NONE = 0;
    private static final int END_OWN_SEEN = 1;
    private static final int END_OWN_UNSEEN = 2;
    private static final int END_RUNNING_ELSEWHERE = 3;
    private static final int END_COMMITTED_SEEN = 4;
    private static final int END_COMMITTED_UNSEEN = 5;

    private static final int LOOK_MODE = 0;
    private static final int LOOK_COMMAND = 1;
    private static final int LOOK_TOP = 2;
    private static final int LOOK_NUMBER = 3;
    private static final int LOOK_SNAPSHOT = 4;
    private static final int LOOK_NUMBERS_GIVEN = 5;
    private static final int LOOK_COMMITS = 6;

    /** A number that was given. */
    private static final class Given {
        final int rootNumber;
        int level;
        int condition = RUNNING;
        int commitPlace = 0;

        Given(int rootNumber, int level) {
            this.rootNumber = rootNumber;
            this.level = level;
        }
    }

    /** What a session has between its begin and its end. */
    private static final class Transaction {
        final int mode;
        final int[] numbers = new int[LEVELS];
        int top = 0;
        int command = 0;
        int snapshot = NO_SNAPSHOT;

        Transaction(int mode) {
            this.mode = mode;
        }

        boolean hasSnapshot() {
            return snapshot != NO_SNAPSHOT;
        }

        /** Level 0 is never gone back to, so its number stands for the whole transaction. */
        boolean owns(Given g) {
            return g.rootNumber == numbers[0];
        }

        boolean canLeave(int k) {
            return k >= 1 && k <= top;
        }

        void clearLevelsFrom(int k) {
            for (int level = k; level < LEVELS; level++) {
                numbers[level] = NO_NUMBER;
            }
        }
    }

    private final Transaction[] sessions = new Transaction[SESSIONS];
    private final ArrayList<Given> given = new ArrayList<>();
    private int commits = 0;

    public SnapshotDesk() {
    }

    public boolean begin(int s, int mode) {
        if (!isSession(s) || mode < 0 || mode >= MODES || sessions[s] != null) {
            return false;
        }
        sessions[s] = new Transaction(mode);
        return true;
    }

    public int statement(int s) {
        Transaction t = transactionOf(s);
        if (t == null) {
            return REFUSED;
        }
        t.command++;
        if (t.mode == SNAPSHOT_FOR_EACH_STATEMENT || !t.hasSnapshot()) {
            t.snapshot = commits;
        }
        return t.command;
    }

    public int number(int s) {
        Transaction t = transactionOf(s);
        if (t == null || countLevelsWithoutNumber(t) > NUMBERS - given.size()) {
            return REFUSED;
        }
        giveMissingNumbers(t);
        return t.numbers[t.top];
    }

    public int save(int s) {
        Transaction t = transactionOf(s);
        if (t == null || t.top >= LEVELS - 1) {
            return REFUSED;
        }
        t.top++;
        return t.top;
    }

    public boolean release(int s, int k) {
        Transaction t = transactionOf(s);
        if (t == null || !t.canLeave(k)) {
            return false;
        }
        for (int i = 0; i < given.size(); i++) {
            Given g = given.get(i);
            if (t.owns(g) && g.level >= k) {
                g.level = k - 1;
            }
        }
        t.clearLevelsFrom(k);
        t.top = k - 1;
        return true;
    }

    public boolean back(int s, int k) {
        Transaction t = transactionOf(s);
        if (t == null || !t.canLeave(k)) {
            return false;
        }
        abortNumbersFrom(t, k);
        t.clearLevelsFrom(k);
        t.top = k;
        return true;
    }

    public int commit(int s) {
        Transaction t = transactionOf(s);
        if (t == null) {
            return REFUSED;
        }
        sessions[s] = null;
        // Level 0 gets its number first and keeps it running, so without it nothing runs.
        if (t.numbers[0] == NO_NUMBER) {
            return 0;
        }
        commits++;
        commitRunningNumbers(t);
        return commits;
    }

    public boolean abort(int s) {
        Transaction t = transactionOf(s);
        if (t == null) {
            return false;
        }
        abortNumbersFrom(t, 0);
        sessions[s] = null;
        return true;
    }

    public void crash() {
        for (int s = 0; s < SESSIONS; s++) {
            abort(s);
        }
    }

    public int state(int n) {
        Given g = find(n);
        return g == null ? NOT_GIVEN : g.condition;
    }

    public int root(int n) {
        Given g = find(n);
        return g == null ? NO_NUMBER : g.rootNumber;
    }

    public int place(int n) {
        Given g = find(n);
        return g == null ? 0 : g.commitPlace;
    }

    public boolean sees(int s, int made, int command, int ended, int endCommand) {
        Transaction t = transactionOf(s);
        if (t == null || !t.hasSnapshot()) {
            return false;
        }
        return seesDeed(t, find(made), command) && !seesDeed(t, find(ended), endCommand);
    }

    public int ending(int s, int ended, int command) {
        Transaction t = transactionOf(s);
        if (t == null || !t.hasSnapshot()) {
            return REFUSED;
        }
        Given g = find(ended);
        if (g == null || g.condition == ABORTED) {
            return END_NONE;
        }
        boolean seen = seesDeed(t, g, command);
        if (t.owns(g)) {
            return seen ? END_OWN_SEEN : END_OWN_UNSEEN;
        }
        if (g.condition == RUNNING) {
            return END_RUNNING_ELSEWHERE;
        }
        return seen ? END_COMMITTED_SEEN : END_COMMITTED_UNSEEN;
    }

    public boolean dead(int made, int ended) {
        Given maker = find(made);
        if (maker == null) {
            return false;
        }
        return maker.condition == ABORTED || isInEveryLiveSnapshot(find(ended));
    }

    public int look(int s, int what) {
        if (what == LOOK_NUMBERS_GIVEN) {
            return given.size();
        }
        if (what == LOOK_COMMITS) {
            return commits;
        }
        Transaction t = transactionOf(s);
        return t == null ? REFUSED : lookAt(t, what);
    }

    private static int lookAt(Transaction t, int what) {
        switch (what) {
            case LOOK_MODE:
                return t.mode;
            case LOOK_COMMAND:
                return t.command;
            case LOOK_TOP:
                return t.top;
            case LOOK_NUMBER:
                return t.numbers[t.top];
            case LOOK_SNAPSHOT:
                return t.snapshot;
            default:
                return REFUSED;
        }
    }

    private static boolean isSession(int s) {
        return s >= 0 && s < SESSIONS;
    }

    /** Null if there is no such session, or it has no transaction. */
    private Transaction transactionOf(int s) {
        return isSession(s) ? sessions[s] : null;
    }

    /** Null if the number was not given. */
    private Given find(int n) {
        return n >= 1 && n <= given.size() ? given.get(n - 1) : null;
    }

    private static int countLevelsWithoutNumber(Transaction t) {
        int count = 0;
        for (int level = 0; level <= t.top; level++) {
            if (t.numbers[level] == NO_NUMBER) {
                count++;
            }
        }
        return count;
    }

    private void giveMissingNumbers(Transaction t) {
        for (int level = 0; level <= t.top; level++) {
            if (t.numbers[level] == NO_NUMBER) {
                t.numbers[level] = given.size() + 1;
                given.add(new Given(t.numbers[0], level));
            }
        }
    }

    private void abortNumbersFrom(Transaction t, int k) {
        for (int i = 0; i < given.size(); i++) {
            Given g = given.get(i);
            if (t.owns(g) && g.level >= k) {
                g.condition = ABORTED;
            }
        }
    }

    private void commitRunningNumbers(Transaction t) {
        for (int i = 0; i < given.size(); i++) {
            Given g = given.get(i);
            if (t.owns(g) && g.condition == RUNNING) {
                g.condition = COMMITTED;
                g.commitPlace = commits;
            }
        }
    }

    /** Whether a transaction with a snapshot sees what a number (null: none) did in a command. */
    private static boolean seesDeed(Transaction t, Given g, int command) {
        if (g == null || g.condition == ABORTED) {
            return false;
        }
        if (t.owns(g)) {
            return command < t.command;
        }
        return g.condition == COMMITTED && g.commitPlace <= t.snapshot;
    }

    private boolean isInEveryLiveSnapshot(Given g) {
        if (g == null || g.condition != COMMITTED) {
            return false;
        }
        for (int s = 0; s < SESSIONS; s++) {
            Transaction t = sessions[s];
            if (t != null && t.hasSnapshot() && g.commitPlace > t.snapshot) {
                return false;
            }
        }
        return true;
    }
}
