import java.lang.reflect.Constructor;
import java.lang.reflect.Field;
import java.lang.reflect.InvocationTargetException;
import java.lang.reflect.Method;
import java.lang.reflect.Modifier;
import java.util.ArrayList;
import java.util.Arrays;
import java.util.List;
import java.util.Set;
import java.util.TreeMap;
import java.util.TreeSet;

/**
 * A test for each sentence of the document that tells a case, named after the promise's number and the
 * case. Main finds and runs every method whose name begins with "promise".
 *
 * A run is a row of texts "call(arguments)=answer" on a new object, with answers worked out from
 * the document; a boolean counts 1 or 0, and crash() counts 0. The document makes no difference between its
 * six sessions, so run(..) makes each row six times, with session s + turn (of 6) in place of
 * session s.
 */
public final class SnapshotDeskPromises {
    private static final int PROMISES = 17;
    private static final int CALLS_PROMISED = 512;
    private static final int TOP_LEVEL = 7;

    private static final int[] SESSIONS = {0, 1, 2, 3, 4, 5};
    /** The calls whose first argument is no session. */
    private static final Set<String> WITHOUT_SESSION = Set.of("crash", "state", "root", "place", "dead");
    private static final int[] NO_SESSIONS = {-1, 6, 7, -6, 8, 256, 65536, Integer.MIN_VALUE, Integer.MAX_VALUE};
    private static final int[] NO_MODES = {-1, 2, 3, 256, 65536, Integer.MIN_VALUE, Integer.MAX_VALUE};
    /** Not given in any run of 512 calls. */
    private static final int[] NO_NUMBERS = {0, -1, -2, 3999, 4000, 4001, 65537, Integer.MIN_VALUE, Integer.MAX_VALUE};
    private static final int[] NO_WHATS = {-1, 7, 8, 256, 65536, Integer.MIN_VALUE, Integer.MAX_VALUE};

    /**
     * Number 1 is committed, 7 aborted, the others running. Session 0 has four levels, the last without a
     * number, and 4 was released to level 1; session 1 went back to level 1, and its snapshot is older than
     * the commit; session 2 has only begun; session 3's transaction has ended; session 4 never had one;
     * session 5 has all eight levels, and no snapshot.
     */
    private static final String[] SCENE = {
        "begin(1,1)=1", "statement(1)=1",
        "begin(0,0)=1", "number(0)=1", "commit(0)=1", "begin(3,1)=1", "statement(3)=1", "commit(3)=0",
        "begin(0,0)=1", "statement(0)=1", "save(0)=1", "save(0)=2", "number(0)=4", "release(0,2)=1", "save(0)=2",
        "number(0)=5", "save(0)=3",
        "save(1)=1", "number(1)=7", "back(1,1)=1",
        "begin(2,0)=1",
        "begin(5,1)=1", "save(5)=1", "save(5)=2", "save(5)=3", "save(5)=4", "save(5)=5", "save(5)=6", "save(5)=7",
        "number(5)=15"};
    private static final int SCENE_NUMBERS = 15;

    /** Takes the scene apart, so that what no question shows (what belongs to which level) shows too. */
    private static final String[] SCENE_TAKEN_APART = {
        "look(0,0)=0", "look(0,1)=1", "look(0,2)=3", "look(0,3)=0", "look(0,4)=1", "statement(0)=2", "number(0)=16",
        "back(0,3)=1", "state(16)=3", "state(5)=1", "back(0,2)=1", "state(5)=3", "state(4)=1", "back(0,1)=1",
        "state(4)=3", "state(3)=3", "state(2)=1", "look(0,2)=1", "number(0)=17", "root(17)=2", "commit(0)=2",
        "place(2)=2", "place(17)=2", "place(4)=0",
        "look(1,0)=1", "look(1,1)=1", "look(1,2)=1", "look(1,3)=0", "statement(1)=2", "look(1,4)=0", "number(1)=18",
        "release(1,1)=1", "number(1)=6", "state(18)=1", "commit(1)=3", "place(18)=3", "state(7)=3",
        "look(2,0)=0", "look(2,4)=-1", "statement(2)=1", "look(2,4)=3", "look(2,2)=0", "number(2)=19", "abort(2)=1",
        "state(19)=3",
        "look(5,0)=1", "look(5,4)=-1", "statement(5)=1", "look(5,4)=3", "look(5,3)=15", "release(5,7)=1",
        "number(5)=14", "release(5,6)=1", "number(5)=13", "release(5,5)=1", "number(5)=12", "release(5,4)=1",
        "number(5)=11", "release(5,3)=1", "number(5)=10", "release(5,2)=1", "number(5)=9", "release(5,1)=1",
        "number(5)=8", "state(15)=1", "commit(5)=4", "place(15)=4", "place(8)=4",
        "begin(3,0)=1", "look(3,1)=0", "look(3,4)=-1", "begin(4,1)=1", "look(4,2)=0", "look(0,5)=19", "look(0,6)=4"};

    private static String test = "";
    private static int wrong = 0;

    public static void main(String[] args) throws IllegalAccessException {
        TreeMap<String, Method> tests = new TreeMap<>();
        for (Method m : SnapshotDeskPromises.class.getDeclaredMethods()) {
            if (m.getName().startsWith("promise")) {
                tests.put(m.getName(), m);
            }
        }
        for (Method m : tests.values()) {
            runTest(m);
        }
        test = "all";
        for (int p = 1; p <= PROMISES; p++) {
            String prefix = String.format("promise%02d_", p);
            if (tests.keySet().stream().noneMatch(name -> name.startsWith(prefix))) {
                fail("no test for promise " + p);
            }
        }
        System.out.println(tests.size() + " tests: "
            + (wrong == 0 ? "all answers are as due" : wrong + " answers are not as due"));
        if (wrong != 0) {
            System.exit(1);
        }
    }

    private static void runTest(Method m) throws IllegalAccessException {
        test = m.getName();
        try {
            m.invoke(null);
        } catch (InvocationTargetException e) {
            fail("threw " + e.getCause());
        }
    }

    // ---- 1: a new object

    private static void promise01_faceIsTheDocuments() {
        TreeSet<String> got = new TreeSet<>();
        for (Method m : SnapshotDesk.class.getDeclaredMethods()) {
            if (!Modifier.isPrivate(m.getModifiers())) {
                got.add(m.toString());
            }
        }
        for (Field f : SnapshotDesk.class.getDeclaredFields()) {
            if (!Modifier.isPrivate(f.getModifiers())) {
                got.add(f.toString());
            }
        }
        for (Constructor<?> c : SnapshotDesk.class.getDeclaredConstructors()) {
            got.add(c.toString());
        }
        TreeSet<String> want = new TreeSet<>(Arrays.asList(
            "public SnapshotDesk()",
            "public boolean SnapshotDesk.begin(int,int)",
            "public int SnapshotDesk.statement(int)",
            "public int SnapshotDesk.number(int)",
            "public int SnapshotDesk.save(int)",
            "public boolean SnapshotDesk.release(int,int)",
            "public boolean SnapshotDesk.back(int,int)",
            "public int SnapshotDesk.commit(int)",
            "public boolean SnapshotDesk.abort(int)",
            "public void SnapshotDesk.crash()",
            "public int SnapshotDesk.state(int)",
            "public int SnapshotDesk.root(int)",
            "public int SnapshotDesk.place(int)",
            "public boolean SnapshotDesk.sees(int,int,int,int,int)",
            "public int SnapshotDesk.ending(int,int,int)",
            "public boolean SnapshotDesk.dead(int,int)",
            "public int SnapshotDesk.look(int,int)"));
        if (!got.equals(want)) {
            fail("the face is " + got + ", due is " + want);
        }
        if (!Modifier.isFinal(SnapshotDesk.class.getModifiers())) {
            fail("the class is not final");
        }
    }

    private static void promise01_noNumberWasGiven() {
        run("look(0,5)=0", "state(1)=0", "root(1)=0", "place(1)=0", "state(0)=0", "root(0)=0", "place(0)=0");
    }

    private static void promise01_noCommitWas() {
        run("look(0,6)=0");
    }

    private static void promise01_noSessionHasATransaction() {
        run("look(0,0)=-1", "look(0,1)=-1", "look(0,2)=-1", "look(0,3)=-1", "look(0,4)=-1",
            "statement(0)=-1", "number(0)=-1", "save(0)=-1", "release(0,0)=0", "release(0,1)=0", "back(0,0)=0",
            "back(0,1)=0", "commit(0)=-1", "abort(0)=0", "sees(0,1,0,0,0)=0", "ending(0,1,0)=-1");
    }

    private static void promise01_noVersionIsDead() {
        run("dead(0,0)=0", "dead(1,0)=0", "dead(1,1)=0", "dead(0,1)=0");
    }

    private static void promise01_firstNumberAndFirstCommitAreOne() {
        run("begin(0,0)=1", "number(0)=1", "commit(0)=1", "place(1)=1");
    }

    private static void promise01_objectsShareNothing() {
        Desk one = new Desk(0);
        Desk other = new Desk(0);
        one.ask("begin(0,1)=1", "statement(0)=1", "number(0)=1", "commit(0)=1", "begin(0,1)=1", "save(0)=1");
        other.ask("look(0,0)=-1", "look(0,5)=0", "look(0,6)=0", "state(1)=0", "begin(0,0)=1", "look(0,2)=0",
            "number(0)=1", "abort(0)=1");
        one.ask("state(1)=2", "look(0,0)=1", "look(0,2)=1", "look(0,5)=1");
    }

    // ---- 2: begin

    private static void promise02_eachSessionGetsLevel0() {
        run("begin(0,0)=1", "look(0,0)=0", "look(0,2)=0");
        run("begin(0,1)=1", "look(0,0)=1", "look(0,2)=0");
    }

    private static void promise02_commandIs0AtFirst() {
        run("begin(0,1)=1", "look(0,1)=0");
    }

    private static void promise02_level0HasNoNumberYet() {
        run("begin(0,0)=1", "look(0,3)=0", "look(0,5)=0", "state(1)=0");
    }

    private static void promise02_noSnapshotYet() {
        run("begin(0,0)=1", "look(0,4)=-1");
        run("begin(0,1)=1", "look(0,4)=-1");
    }

    private static void promise02_sixSideBySide() {
        run("begin(0,0)=1", "begin(1,1)=1", "begin(2,0)=1", "begin(3,1)=1", "begin(4,1)=1", "begin(5,0)=1",
            "look(0,0)=0", "look(1,0)=1", "look(2,0)=0", "look(3,0)=1", "look(4,0)=1", "look(5,0)=0");
    }

    private static void promise02_noSuchSession() {
        each(NO_SESSIONS, "begin(#,0)=0", "begin(#,1)=0", "look(#,0)=-1", "begin(0,0)=1", "begin(5,0)=1");
        changesNothing(NO_SESSIONS, "begin(#,0)=0", "begin(#,1)=0");
    }

    private static void promise02_noSuchMode() {
        each(NO_MODES, "begin(0,#)=0", "look(0,0)=-1", "begin(0,1)=1", "look(0,0)=1");
        changesNothing(NO_MODES, "begin(3,#)=0", "begin(4,#)=0");
    }

    private static void promise02_noSuchSessionNorMode() {
        each(NO_MODES, "begin(-1,#)=0", "begin(6,#)=0", "look(-1,0)=-1", "look(6,0)=-1");
        changesNothing(NO_MODES, "begin(-1,#)=0", "begin(6,#)=0");
    }

    private static void promise02_hasOne() {
        run("begin(0,0)=1", "begin(0,0)=0", "begin(0,1)=0", "look(0,0)=0");
        run("begin(0,1)=1", "begin(0,1)=0", "begin(0,0)=0", "look(0,0)=1");
        changesNothing("begin(0,0)=0", "begin(0,1)=0", "begin(1,0)=0", "begin(1,1)=0", "begin(2,0)=0", "begin(2,1)=0",
            "begin(5,0)=0", "begin(5,1)=0");
    }

    private static void promise02_hasOneAndNoSuchMode() {
        changesNothing(NO_MODES, "begin(0,#)=0", "begin(1,#)=0", "begin(2,#)=0");
    }

    private static void promise02_hasOneWithNumberLevelAndSnapshot() {
        run("begin(0,1)=1", "number(0)=1", "statement(0)=1", "save(0)=1", "begin(0,0)=0", "look(0,0)=1", "look(0,1)=1",
            "look(0,2)=1", "look(0,3)=0", "look(0,4)=0", "release(0,1)=1", "look(0,3)=1", "sees(0,1,0,0,0)=1");
    }

    private static void promise02_againBehindCommit() {
        run("begin(0,1)=1", "statement(0)=1", "save(0)=1", "number(0)=2", "commit(0)=1", "begin(0,0)=1", "look(0,0)=0",
            "look(0,1)=0", "look(0,2)=0", "look(0,3)=0", "look(0,4)=-1");
    }

    private static void promise02_againBehindAbort() {
        run("begin(0,1)=1", "statement(0)=1", "save(0)=1", "number(0)=2", "abort(0)=1", "begin(0,0)=1", "look(0,0)=0",
            "look(0,1)=0", "look(0,2)=0", "look(0,3)=0", "look(0,4)=-1");
    }

    private static void promise02_againBehindCrash() {
        run("begin(0,1)=1", "statement(0)=1", "save(0)=1", "number(0)=2", "crash()=0", "begin(0,0)=1", "look(0,0)=0",
            "look(0,1)=0", "look(0,2)=0", "look(0,3)=0", "look(0,4)=-1");
    }

    // ---- 3: statement

    private static void promise03_commandIsOneMore() {
        run("begin(0,0)=1", "statement(0)=1", "statement(0)=2", "statement(0)=3", "look(0,1)=3");
        run("begin(0,1)=1", "statement(0)=1", "statement(0)=2", "statement(0)=3", "look(0,1)=3");
    }

    private static void promise03_asManyAsCallsArePromised() {
        List<String> rows = new ArrayList<>();
        add(rows, "begin(0,0)=1");
        for (int command = 1; command < CALLS_PROMISED; command++) {
            add(rows, "statement(0)=" + command);
        }
        run(rows);
    }

    private static void promise03_otherSessionsKeepTheirCommand() {
        run("begin(0,0)=1", "begin(1,0)=1", "statement(0)=1", "statement(0)=2", "look(1,1)=0", "statement(1)=1",
            "look(0,1)=2");
    }

    private static void promise03_noTransaction() {
        run("statement(0)=-1", "look(0,1)=-1", "begin(0,0)=1", "look(0,1)=0", "statement(0)=1");
        changesNothing("statement(3)=-1", "statement(4)=-1");
    }

    private static void promise03_noTransactionBehindItsEnd() {
        run("begin(0,0)=1", "statement(0)=1", "commit(0)=0", "statement(0)=-1");
        run("begin(0,0)=1", "statement(0)=1", "abort(0)=1", "statement(0)=-1");
        run("begin(0,0)=1", "statement(0)=1", "crash()=0", "statement(0)=-1");
    }

    private static void promise03_noSuchSession() {
        changesNothing(NO_SESSIONS, "statement(#)=-1");
    }

    private static void promise03_snapshotOfNoCommits() {
        run("begin(0,0)=1", "begin(1,1)=1", "look(0,4)=-1", "look(1,4)=-1", "statement(0)=1", "statement(1)=1",
            "look(0,4)=0", "look(1,4)=0");
    }

    private static void promise03_snapshotIsOfTheCommitsSoFar() {
        run("begin(0,0)=1", "number(0)=1", "commit(0)=1", "begin(0,0)=1", "number(0)=2", "commit(0)=2", "begin(1,0)=1",
            "begin(2,1)=1", "begin(0,0)=1", "number(0)=3", "commit(0)=3", "statement(1)=1", "statement(2)=1",
            "look(1,4)=3", "look(2,4)=3");
    }

    private static void promise03_abortsAndEmptyCommitsAreNotOfASnapshot() {
        run("begin(0,0)=1", "number(0)=1", "abort(0)=1", "begin(0,0)=1", "commit(0)=0", "begin(1,0)=1",
            "statement(1)=1", "look(1,4)=0");
    }

    private static void promise03_mode0GetsASnapshotInPlaceOfTheOlder() {
        run("begin(0,0)=1", "statement(0)=1", "begin(2,0)=1", "number(2)=1", "commit(2)=1", "look(0,4)=0",
            "statement(0)=2", "look(0,4)=1", "statement(0)=3", "look(0,4)=1");
    }

    private static void promise03_mode1KeepsItsSnapshot() {
        run("begin(1,1)=1", "statement(1)=1", "begin(2,0)=1", "number(2)=1", "commit(2)=1", "look(1,4)=0",
            "statement(1)=2", "look(1,4)=0", "statement(1)=3", "look(1,4)=0");
    }

    private static void promise03_mode1GetsItsSnapshotAtTheFirstStatement() {
        run("begin(1,1)=1", "begin(2,0)=1", "number(2)=1", "commit(2)=1", "look(1,4)=-1", "statement(1)=1",
            "look(1,4)=1");
    }

    private static void promise03_onlyItsOwnTransactionGetsASnapshot() {
        run("begin(0,0)=1", "begin(1,0)=1", "statement(0)=1", "look(1,4)=-1", "begin(2,0)=1", "number(2)=1",
            "commit(2)=1", "statement(1)=1", "look(0,4)=0", "look(1,4)=1");
    }

    private static void promise03_givesNoNumber() {
        run("begin(0,0)=1", "statement(0)=1", "look(0,3)=0", "look(0,5)=0", "save(0)=1", "statement(0)=2",
            "look(0,3)=0", "look(0,2)=1", "look(0,5)=0");
    }

    private static void promise03_levelsLeaveCommandAndSnapshotOfEitherMode() {
        String[] stays = {"look(0,1)=2", "look(0,4)=1"};
        for (int mode = 0; mode <= 1; mode++) {
            for (int k = 1; k <= TOP_LEVEL; k++) {
                List<String> rows = new ArrayList<>();
                add(rows, "begin(1,0)=1", "number(1)=1", "commit(1)=1", "begin(0," + mode + ")=1", "statement(0)=1",
                    "statement(0)=2", "begin(1,0)=1", "number(1)=2", "commit(1)=2");
                addEachDeedOnLevels(rows, k, 3, stays);
                run(rows);
            }
        }
    }

    private static void promise03_levelsGiveNoSnapshotToEitherMode() {
        String[] stays = {"look(0,1)=0", "look(0,4)=-1"};
        for (int mode = 0; mode <= 1; mode++) {
            for (int k = 1; k <= TOP_LEVEL; k++) {
                List<String> rows = new ArrayList<>();
                add(rows, "begin(1,0)=1", "number(1)=1", "commit(1)=1", "begin(0," + mode + ")=1");
                addEachDeedOnLevels(rows, k, 2, stays);
                run(rows);
            }
        }
    }

    /** Session 0 saves levels up to the last one, gets numbers, and goes back to level k and releases it. */
    private static void addEachDeedOnLevels(List<String> rows, int k, int firstNumber, String... behindEach) {
        for (int level = 1; level <= TOP_LEVEL; level++) {
            add(rows, "save(0)=" + level);
            add(rows, behindEach);
        }
        add(rows, "number(0)=" + (firstNumber + TOP_LEVEL));
        add(rows, behindEach);
        add(rows, "back(0," + k + ")=1");
        add(rows, behindEach);
        add(rows, "number(0)=" + (firstNumber + TOP_LEVEL + 1));
        add(rows, behindEach);
        add(rows, "release(0," + k + ")=1");
        add(rows, behindEach);
    }

    private static void promise03_deedsOfOthersLeaveCommandAndSnapshot() {
        String[] deeds = {"begin(3,0)=1", "statement(3)=1", "number(3)=3", "save(3)=1", "number(3)=4", "back(3,1)=1",
            "number(3)=5", "release(3,1)=1", "commit(3)=3", "begin(3,1)=1", "statement(3)=1", "number(3)=6",
            "statement(3)=2", "abort(3)=1", "begin(3,1)=1", "commit(3)=0"};
        for (int mode = 0; mode <= 1; mode++) {
            List<String> rows = new ArrayList<>();
            add(rows, "begin(3,0)=1", "number(3)=1", "commit(3)=1", "begin(0," + mode + ")=1", "statement(0)=1",
                "begin(1," + mode + ")=1", "begin(3,0)=1", "number(3)=2", "commit(3)=2");
            for (String deed : deeds) {
                add(rows, deed, "look(0,1)=1", "look(0,4)=1", "look(1,1)=0", "look(1,4)=-1");
            }
            run(rows);
        }
    }

    private static void promise03_levelsLeaveCommandAndSnapshot() {
        run("begin(0,1)=1", "statement(0)=1", "begin(2,0)=1", "number(2)=1", "commit(2)=1", "save(0)=1", "look(0,1)=1",
            "number(0)=3", "look(0,1)=1", "back(0,1)=1", "look(0,1)=1", "look(0,4)=0", "statement(0)=2",
            "release(0,1)=1", "look(0,1)=2", "look(0,4)=0");
    }

    // ---- 4: number

    private static void promise04_isGivenOnce() {
        run("begin(0,0)=1", "number(0)=1", "number(0)=1", "look(0,3)=1", "look(0,5)=1", "state(2)=0");
    }

    private static void promise04_levelsBelowFirst() {
        run("begin(0,0)=1", "save(0)=1", "save(0)=2", "number(0)=3", "look(0,5)=3", "state(1)=1", "state(2)=1",
            "state(3)=1", "release(0,2)=1", "number(0)=2", "release(0,1)=1", "number(0)=1", "look(0,5)=3");
    }

    private static void promise04_onlyLevelsThatHaveNone() {
        run("begin(0,0)=1", "number(0)=1", "save(0)=1", "save(0)=2", "number(0)=3", "save(0)=3", "number(0)=4",
            "look(0,5)=4", "release(0,3)=1", "look(0,3)=3", "release(0,2)=1", "look(0,3)=2", "release(0,1)=1",
            "look(0,3)=1");
    }

    private static void promise04_allEightLevelsAtOnce() {
        run("begin(0,0)=1", "save(0)=1", "save(0)=2", "save(0)=3", "save(0)=4", "save(0)=5", "save(0)=6", "save(0)=7",
            "number(0)=8", "look(0,5)=8", "root(8)=1", "root(1)=1", "state(9)=0", "number(0)=8");
    }

    private static void promise04_sessionsShareTheRow() {
        run("begin(0,0)=1", "begin(1,0)=1", "number(1)=1", "number(0)=2", "save(1)=1", "number(1)=3", "number(0)=2",
            "save(0)=1", "number(0)=4", "number(1)=3");
    }

    private static void promise04_onlyItsOwnLevelsGetOne() {
        run("begin(0,0)=1", "save(0)=1", "begin(1,0)=1", "number(1)=1", "look(0,3)=0", "look(0,5)=1", "number(0)=3");
    }

    private static void promise04_eachOnceBehindAbort() {
        run("begin(0,0)=1", "number(0)=1", "abort(0)=1", "begin(0,0)=1", "number(0)=2", "state(1)=3", "state(2)=1");
    }

    private static void promise04_eachOnceBehindBack() {
        run("begin(0,0)=1", "save(0)=1", "number(0)=2", "back(0,1)=1", "number(0)=3", "state(2)=3", "state(3)=1");
    }

    private static void promise04_eachOnceBehindCommitAndCrash() {
        run("begin(0,0)=1", "number(0)=1", "commit(0)=1", "begin(0,0)=1", "number(0)=2", "crash()=0", "begin(0,0)=1",
            "number(0)=3");
    }

    private static void promise04_noTransaction() {
        run("number(0)=-1", "look(0,5)=0", "state(1)=0", "begin(0,0)=1", "look(0,3)=0", "number(0)=1");
        changesNothing("number(3)=-1", "number(4)=-1");
    }

    private static void promise04_noTransactionBehindItsEnd() {
        run("begin(0,0)=1", "number(0)=1", "commit(0)=1", "number(0)=-1", "look(0,5)=1");
        run("begin(0,0)=1", "number(0)=1", "abort(0)=1", "number(0)=-1", "look(0,5)=1");
        run("begin(0,0)=1", "number(0)=1", "crash()=0", "number(0)=-1", "look(0,5)=1");
    }

    private static void promise04_noSuchSession() {
        changesNothing(NO_SESSIONS, "number(#)=-1");
    }

    private static void promise04_oneAfterTheOtherFor512Calls() {
        List<String> rows = new ArrayList<>();
        add(rows, "begin(0,0)=1", "number(0)=1", "save(0)=1");
        for (int n = 2; n <= 250; n++) {
            add(rows, "number(0)=" + n, "back(0,1)=1");
        }
        add(rows, "look(0,5)=250", "state(250)=3", "state(251)=0", "root(250)=1", "commit(0)=1", "place(1)=1",
            "place(250)=0");
        run(rows);
    }

    /** Eight numbers with 9 calls, then seven with 8 calls, again and again. */
    private static List<String> sevenNumbersAgainAndAgain(int times) {
        List<String> rows = new ArrayList<>();
        add(rows, "begin(0,0)=1");
        addSaves(rows, 1, TOP_LEVEL);
        add(rows, "number(0)=8");
        for (int i = 1; i <= times; i++) {
            add(rows, "back(0,1)=1");
            addSaves(rows, 2, TOP_LEVEL);
            add(rows, "number(0)=" + (8 + 7 * i));
        }
        return rows;
    }

    private static void promise04_asManyAs512CallsCanGive() {
        List<String> rows = sevenNumbersAgainAndAgain(62);
        add(rows, "back(0,1)=1");
        addSaves(rows, 2, 6);
        add(rows, "number(0)=448");
        run(rows);
    }

    private static void promise04_nearlyAsManyAs512CallsCanGive() {
        List<String> rows = sevenNumbersAgainAndAgain(61);
        add(rows, "look(0,5)=435", "state(436)=0", "state(435)=1", "state(428)=3", "root(435)=1", "root(428)=1",
            "number(0)=435", "commit(0)=1", "place(1)=1", "place(428)=0", "place(429)=1", "place(435)=1");
        run(rows);
    }

    private static void promise04_fromBelowOnForEachHeight() {
        for (int top = 0; top <= TOP_LEVEL; top++) {
            List<String> rows = levelsUpTo(top);
            add(rows, "look(0,5)=" + (top + 1));
            addForNumbers(rows, 1, top + 1, "root", 1);
            for (int level = top; level >= 1; level--) {
                add(rows, "look(0,3)=" + (level + 1), "number(0)=" + (level + 1), "release(0," + level + ")=1");
            }
            add(rows, "look(0,3)=1", "number(0)=1", "look(0,5)=" + (top + 1));
            run(rows);
        }
    }

    private static void promise04_belongsToTheLevelThatItWasGivenTo() {
        List<String> rows = levelsUpTo(TOP_LEVEL);
        for (int level = TOP_LEVEL; level >= 1; level--) {
            add(rows, "state(" + (level + 1) + ")=1", "back(0," + level + ")=1", "state(" + (level + 1) + ")=3",
                "state(" + level + ")=1");
        }
        run(rows);
    }

    private static void promise04_notNumbersEnoughChangesNothing() {
        withNumbersGiven(3998).ask("begin(0,0)=1", "save(0)=1", "save(0)=2", "number(0)=-1", "look(0,5)=3998",
            "state(3999)=0", "look(0,3)=0", "look(0,2)=2", "release(0,2)=1", "look(0,3)=0", "release(0,1)=1",
            "look(0,3)=0", "commit(0)=0");
    }

    private static void promise04_numbersJustEnough() {
        withNumbersGiven(3998).ask("begin(0,0)=1", "save(0)=1", "number(0)=4000", "look(0,5)=4000", "state(3999)=1",
            "state(4000)=1", "root(4000)=3999", "state(4001)=0", "commit(0)=1", "place(4000)=1");
        withNumbersGiven(3999).ask("begin(0,0)=1", "number(0)=4000", "root(4000)=4000");
    }

    private static void promise04_noneLeft() {
        withNumbersGiven(4000).ask("begin(0,0)=1", "number(0)=-1", "look(0,3)=0", "look(0,5)=4000", "state(4001)=0",
            "commit(0)=0", "look(0,6)=0");
    }

    private static void promise04_noneLeftButTheTopHasOne() {
        withNumbersGiven(3999).ask("begin(0,0)=1", "number(0)=4000", "number(0)=4000", "save(0)=1", "number(0)=-1",
            "look(0,3)=0", "release(0,1)=1", "number(0)=4000", "commit(0)=1", "state(4000)=2");
    }

    private static void promise04_noneLeftBehindBack() {
        withNumbersGiven(3998).ask("begin(0,0)=1", "save(0)=1", "number(0)=4000", "back(0,1)=1", "number(0)=-1",
            "look(0,3)=0", "look(0,5)=4000", "state(4000)=3", "commit(0)=1", "place(3999)=1");
    }

    // ---- 5: save

    private static void promise05_whichLevelItIs() {
        run("begin(0,0)=1", "save(0)=1", "look(0,2)=1", "save(0)=2", "look(0,2)=2");
    }

    private static void promise05_newLevelHasNoNumber() {
        run("begin(0,0)=1", "number(0)=1", "save(0)=1", "look(0,3)=0", "look(0,5)=1", "number(0)=2", "save(0)=2",
            "look(0,3)=0", "look(0,5)=2");
    }

    private static void promise05_hasEight() {
        run("begin(0,0)=1", "save(0)=1", "save(0)=2", "save(0)=3", "save(0)=4", "save(0)=5", "save(0)=6",
            "save(0)=7", "save(0)=-1", "look(0,2)=7", "save(0)=-1", "look(0,2)=7", "number(0)=8", "look(0,5)=8");
        changesNothing("save(5)=-1");
    }

    private static void promise05_roomAgainBehindRelease() {
        run("begin(0,0)=1", "save(0)=1", "save(0)=2", "save(0)=3", "save(0)=4", "save(0)=5", "save(0)=6", "save(0)=7",
            "save(0)=-1", "release(0,7)=1", "save(0)=7", "save(0)=-1", "release(0,1)=1", "save(0)=1", "look(0,2)=1");
    }

    private static void promise05_roomAgainBehindBack() {
        run("begin(0,0)=1", "save(0)=1", "save(0)=2", "save(0)=3", "save(0)=4", "save(0)=5", "save(0)=6", "save(0)=7",
            "back(0,7)=1", "save(0)=-1", "back(0,6)=1", "save(0)=7", "save(0)=-1", "back(0,1)=1", "save(0)=2");
    }

    private static void promise05_eachSessionHasItsOwnEight() {
        List<String> rows = new ArrayList<>();
        for (int s : SESSIONS) {
            add(rows, "begin(" + s + ",0)=1");
        }
        for (int level = 1; level <= TOP_LEVEL; level++) {
            for (int s : SESSIONS) {
                add(rows, "save(" + s + ")=" + level);
            }
        }
        for (int s : SESSIONS) {
            add(rows, "save(" + s + ")=-1", "look(" + s + ",2)=7");
        }
        run(rows);
    }

    private static void promise05_noTransaction() {
        run("save(0)=-1", "look(0,2)=-1", "begin(0,0)=1", "look(0,2)=0", "save(0)=1");
        changesNothing("save(3)=-1", "save(4)=-1");
    }

    private static void promise05_noTransactionBehindItsEnd() {
        run("begin(0,0)=1", "save(0)=1", "commit(0)=0", "save(0)=-1", "begin(0,0)=1", "save(0)=1");
        run("begin(0,0)=1", "save(0)=1", "abort(0)=1", "save(0)=-1", "begin(0,0)=1", "save(0)=1");
        run("begin(0,0)=1", "save(0)=1", "crash()=0", "save(0)=-1", "begin(0,0)=1", "save(0)=1");
    }

    private static void promise05_noSuchSession() {
        changesNothing(NO_SESSIONS, "save(#)=-1");
    }

    // ---- 6: release

    private static void promise06_theTop() {
        run("begin(0,0)=1", "save(0)=1", "number(0)=2", "release(0,1)=1", "look(0,2)=0", "look(0,3)=1",
            "number(0)=1", "state(1)=1", "state(2)=1");
    }

    private static void promise06_withThoseUponIt() {
        run("begin(0,0)=1", "save(0)=1", "save(0)=2", "save(0)=3", "number(0)=4", "release(0,2)=1", "look(0,2)=1",
            "look(0,3)=2", "state(3)=1", "state(4)=1", "save(0)=2", "look(0,3)=0", "number(0)=5");
    }

    private static void promise06_allEightDownToLevel0() {
        run("begin(0,0)=1", "save(0)=1", "save(0)=2", "save(0)=3", "save(0)=4", "save(0)=5", "save(0)=6", "save(0)=7",
            "number(0)=8", "release(0,1)=1", "look(0,2)=0", "look(0,3)=1", "state(8)=1", "save(0)=1", "look(0,3)=0",
            "save(0)=2", "number(0)=10", "commit(0)=1", "place(8)=1", "place(10)=1");
    }

    private static void promise06_numbersBelongToTheLevelBelow() {
        run("begin(0,0)=1", "save(0)=1", "save(0)=2", "number(0)=3", "release(0,2)=1", "back(0,1)=1", "state(3)=3",
            "state(2)=3", "state(1)=1");
    }

    private static void promise06_numbersBelongNoMoreToTheLevelItself() {
        run("begin(0,0)=1", "save(0)=1", "save(0)=2", "number(0)=3", "release(0,2)=1", "save(0)=2", "number(0)=4",
            "back(0,2)=1", "state(3)=1", "state(4)=3");
    }

    private static void promise06_numbersUponItBelongToTheLevelBelow() {
        run("begin(0,0)=1", "save(0)=1", "save(0)=2", "save(0)=3", "number(0)=4", "release(0,2)=1", "save(0)=2",
            "save(0)=3", "number(0)=6", "back(0,2)=1", "state(3)=1", "state(4)=1", "state(5)=3", "state(6)=3",
            "back(0,1)=1", "state(2)=3", "state(3)=3", "state(4)=3", "state(1)=1");
    }

    private static void promise06_numbersReleasedTwice() {
        run("begin(0,0)=1", "save(0)=1", "save(0)=2", "number(0)=3", "release(0,2)=1", "release(0,1)=1", "save(0)=1",
            "number(0)=4", "back(0,1)=1", "state(2)=1", "state(3)=1", "state(4)=3", "commit(0)=1", "place(2)=1",
            "place(3)=1", "place(4)=0");
    }

    private static void promise06_numbersOfLevelsBelowStay() {
        run("begin(0,0)=1", "save(0)=1", "save(0)=2", "save(0)=3", "number(0)=4", "release(0,3)=1", "back(0,2)=1",
            "state(2)=1", "state(3)=3", "state(4)=3", "back(0,1)=1", "state(2)=3", "state(1)=1");
    }

    private static void promise06_abortedNumbersStayAborted() {
        run("begin(0,0)=1", "save(0)=1", "number(0)=2", "back(0,1)=1", "number(0)=3", "release(0,1)=1", "state(2)=3",
            "state(3)=1", "commit(0)=1", "state(2)=3", "state(3)=2");
    }

    private static void promise06_withoutNumbers() {
        run("begin(0,0)=1", "save(0)=1", "save(0)=2", "release(0,1)=1", "look(0,2)=0", "look(0,3)=0", "look(0,5)=0",
            "number(0)=1", "commit(0)=1");
    }

    private static void promise06_levelWithoutANumberUponOneWith() {
        run("begin(0,0)=1", "number(0)=1", "save(0)=1", "release(0,1)=1", "look(0,2)=0", "look(0,3)=1", "look(0,5)=1");
    }

    private static void promise06_level0CantBe() {
        run("begin(0,0)=1", "number(0)=1", "release(0,0)=0", "look(0,0)=0", "look(0,2)=0", "look(0,3)=1",
            "save(0)=1", "number(0)=2", "release(0,0)=0", "look(0,2)=1", "look(0,3)=2", "commit(0)=1", "place(2)=1");
        changesNothing("release(0,0)=0", "release(1,0)=0", "release(2,0)=0", "release(5,0)=0");
    }

    private static void promise06_noSuchLevelAbove() {
        run("begin(0,0)=1", "release(0,1)=0", "save(0)=1", "release(0,2)=0", "look(0,2)=1", "release(0,1)=1",
            "release(0,1)=0", "look(0,2)=0");
        changesNothing("release(0,4)=0", "release(0,7)=0", "release(1,2)=0", "release(2,1)=0", "release(5,8)=0");
        changesNothing(new int[] {8, 9, 256, 257, 65537, Integer.MAX_VALUE}, "release(0,#)=0", "release(5,#)=0");
    }

    private static void promise06_noSuchLevelBelow() {
        changesNothing(new int[] {-1, -2, -8, -255, -65535, Integer.MIN_VALUE}, "release(0,#)=0", "release(5,#)=0");
    }

    private static void promise06_noSuchLevelBehindBack() {
        run("begin(0,0)=1", "save(0)=1", "save(0)=2", "number(0)=3", "back(0,1)=1", "release(0,2)=0", "look(0,2)=1",
            "release(0,1)=1", "look(0,2)=0");
    }

    private static void promise06_noTransaction() {
        run("release(0,0)=0", "release(0,1)=0", "begin(0,0)=1", "save(0)=1", "commit(0)=0", "release(0,1)=0",
            "release(0,0)=0", "begin(0,0)=1", "release(0,1)=0");
        changesNothing("release(3,0)=0", "release(3,1)=0", "release(4,0)=0", "release(4,1)=0");
    }

    private static void promise06_noSuchSession() {
        changesNothing(NO_SESSIONS, "release(#,0)=0", "release(#,1)=0");
    }

    private static void promise06_otherSessionsStay() {
        run("begin(0,0)=1", "begin(1,0)=1", "save(0)=1", "save(1)=1", "number(0)=2", "number(1)=4", "release(0,1)=1",
            "look(1,2)=1", "look(1,3)=4", "back(1,1)=1", "state(2)=1", "state(4)=3");
    }

    private static void promise06_eachLevelOfEachHeight() {
        for (int top = 1; top <= TOP_LEVEL; top++) {
            for (int k = 1; k <= top; k++) {
                releaseLevelOfHeight(k, top);
            }
        }
    }

    private static void releaseLevelOfHeight(int k, int top) {
        int last = top + 1;
        int lastBehind = last + TOP_LEVEL - k + 1;
        List<String> rows = levelsUpTo(top);
        add(rows, "release(0," + k + ")=1", "look(0,2)=" + (k - 1), "look(0,3)=" + k, "number(0)=" + k);
        addForNumbers(rows, 1, last, "state", 1);
        addLevels(rows, k, TOP_LEVEL);
        add(rows, "save(0)=-1", "number(0)=" + lastBehind, "back(0," + k + ")=1");
        addForNumbers(rows, 1, last, "state", 1);
        addForNumbers(rows, last + 1, lastBehind, "state", 3);
        if (k > 1) {
            add(rows, "back(0," + (k - 1) + ")=1");
            addForNumbers(rows, 1, k - 1, "state", 1);
            addForNumbers(rows, k, last, "state", 3);
        }
        add(rows, "commit(0)=1");
        addForNumbers(rows, 1, k == 1 ? last : k - 1, "place", 1);
        run(rows);
    }

    private static void promise06_oneLevelAfterTheOther() {
        List<String> rows = levelsUpTo(TOP_LEVEL);
        for (int k = TOP_LEVEL; k >= 2; k--) {
            add(rows, "release(0," + k + ")=1", "look(0,2)=" + (k - 1), "look(0,3)=" + k);
        }
        addForNumbers(rows, 1, 8, "state", 1);
        add(rows, "back(0,1)=1", "state(1)=1");
        addForNumbers(rows, 2, 8, "state", 3);
        run(rows);
    }

    // ---- 7: back

    private static void promise07_toTheTop() {
        run("begin(0,0)=1", "save(0)=1", "number(0)=2", "back(0,1)=1", "look(0,2)=1", "look(0,3)=0",
            "state(1)=1", "state(2)=3");
    }

    private static void promise07_thoseUponItGo() {
        run("begin(0,0)=1", "save(0)=1", "save(0)=2", "save(0)=3", "number(0)=4", "back(0,2)=1", "look(0,2)=2",
            "look(0,3)=0", "state(1)=1", "state(2)=1", "state(3)=3", "state(4)=3", "save(0)=3", "look(0,3)=0",
            "number(0)=6", "look(0,5)=6");
    }

    private static void promise07_fromEightToLevel1() {
        run("begin(0,0)=1", "save(0)=1", "save(0)=2", "save(0)=3", "save(0)=4", "save(0)=5", "save(0)=6", "save(0)=7",
            "number(0)=8", "back(0,1)=1", "look(0,2)=1", "look(0,3)=0", "state(1)=1", "state(2)=3", "state(5)=3",
            "state(8)=3", "number(0)=9", "commit(0)=1", "place(1)=1", "place(9)=1", "place(8)=0");
    }

    private static void promise07_withoutANumberUntilAskedFor() {
        run("begin(0,0)=1", "save(0)=1", "number(0)=2", "back(0,1)=1", "look(0,3)=0", "look(0,5)=2", "number(0)=3",
            "look(0,3)=3", "root(3)=1");
    }

    private static void promise07_againAndAgain() {
        run("begin(0,0)=1", "save(0)=1", "number(0)=2", "back(0,1)=1", "back(0,1)=1", "look(0,2)=1", "look(0,3)=0",
            "number(0)=3", "back(0,1)=1", "state(2)=3", "state(3)=3", "number(0)=4", "commit(0)=1", "place(4)=1",
            "place(3)=0", "state(3)=3");
    }

    private static void promise07_numbersBelowStay() {
        run("begin(0,0)=1", "save(0)=1", "save(0)=2", "number(0)=3", "back(0,2)=1", "state(1)=1", "state(2)=1",
            "state(3)=3", "release(0,2)=1", "look(0,3)=2");
    }

    private static void promise07_numbersReleasedToItAreAborted() {
        run("begin(0,0)=1", "save(0)=1", "save(0)=2", "save(0)=3", "number(0)=4", "release(0,3)=1", "release(0,2)=1",
            "back(0,1)=1", "state(2)=3", "state(3)=3", "state(4)=3", "state(1)=1");
    }

    private static void promise07_numbersReleasedUponItAreAborted() {
        run("begin(0,0)=1", "save(0)=1", "save(0)=2", "save(0)=3", "number(0)=4", "release(0,3)=1", "back(0,1)=1",
            "state(4)=3", "state(3)=3", "state(2)=3");
    }

    private static void promise07_numbersReleasedToLevel0Stay() {
        run("begin(0,0)=1", "save(0)=1", "number(0)=2", "release(0,1)=1", "save(0)=1", "back(0,1)=1", "state(2)=1",
            "commit(0)=1", "place(2)=1");
    }

    private static void promise07_withoutNumbers() {
        run("begin(0,0)=1", "save(0)=1", "save(0)=2", "back(0,1)=1", "look(0,2)=1", "look(0,5)=0", "number(0)=2",
            "root(2)=1", "state(1)=1");
    }

    private static void promise07_level0CantBe() {
        run("begin(0,0)=1", "number(0)=1", "back(0,0)=0", "state(1)=1", "look(0,3)=1", "save(0)=1",
            "number(0)=2", "back(0,0)=0", "state(1)=1", "state(2)=1", "look(0,2)=1", "look(0,3)=2");
        changesNothing("back(0,0)=0", "back(1,0)=0", "back(2,0)=0", "back(5,0)=0");
    }

    private static void promise07_noSuchLevelAbove() {
        run("begin(0,0)=1", "number(0)=1", "back(0,1)=0", "save(0)=1", "number(0)=2", "back(0,2)=0", "state(2)=1",
            "look(0,2)=1", "look(0,3)=2");
        changesNothing("back(0,4)=0", "back(0,7)=0", "back(1,2)=0", "back(2,1)=0", "back(5,8)=0");
        changesNothing(new int[] {8, 9, 256, 257, 65537, Integer.MAX_VALUE}, "back(0,#)=0", "back(5,#)=0");
    }

    private static void promise07_noSuchLevelBelow() {
        changesNothing(new int[] {-1, -2, -8, -255, -65535, Integer.MIN_VALUE}, "back(0,#)=0", "back(5,#)=0");
    }

    private static void promise07_noSuchLevelBehindBackAndRelease() {
        run("begin(0,0)=1", "save(0)=1", "save(0)=2", "number(0)=3", "back(0,1)=1", "back(0,2)=0", "look(0,2)=1",
            "release(0,1)=1", "back(0,1)=0", "look(0,2)=0", "state(1)=1");
    }

    private static void promise07_noTransaction() {
        run("back(0,0)=0", "back(0,1)=0", "begin(0,0)=1", "save(0)=1", "number(0)=2", "commit(0)=1",
            "back(0,1)=0", "back(0,0)=0", "state(1)=2", "state(2)=2");
        changesNothing("back(3,0)=0", "back(3,1)=0", "back(4,0)=0", "back(4,1)=0");
    }

    private static void promise07_noSuchSession() {
        changesNothing(NO_SESSIONS, "back(#,0)=0", "back(#,1)=0");
    }

    private static void promise07_otherSessionsStay() {
        run("begin(0,0)=1", "begin(1,0)=1", "save(0)=1", "save(1)=1", "number(0)=2", "number(1)=4", "back(0,1)=1",
            "state(3)=1", "state(4)=1", "state(2)=3", "look(1,2)=1", "look(1,3)=4");
    }

    private static void promise07_earlierTransactionsStay() {
        run("begin(0,0)=1", "save(0)=1", "number(0)=2", "commit(0)=1", "begin(0,0)=1", "save(0)=1", "number(0)=4",
            "back(0,1)=1", "state(1)=2", "state(2)=2", "state(4)=3");
        run("begin(0,0)=1", "save(0)=1", "number(0)=2", "commit(0)=1", "begin(0,0)=1", "save(0)=1", "back(0,1)=1",
            "state(1)=2", "state(2)=2", "place(2)=1");
    }

    private static void promise07_eachLevelOfEachHeight() {
        for (int top = 1; top <= TOP_LEVEL; top++) {
            for (int k = 1; k <= top; k++) {
                goBackToLevelOfHeight(k, top);
            }
        }
    }

    private static void goBackToLevelOfHeight(int k, int top) {
        int last = top + 1;
        int lastBehind = last + TOP_LEVEL - k + 1;
        List<String> rows = levelsUpTo(top);
        add(rows, "back(0," + k + ")=1", "look(0,2)=" + k, "look(0,3)=0");
        addForNumbers(rows, 1, k, "state", 1);
        addForNumbers(rows, k + 1, last, "state", 3);
        addLevels(rows, k + 1, TOP_LEVEL);
        add(rows, "save(0)=-1", "number(0)=" + lastBehind);
        addForNumbers(rows, last + 1, lastBehind, "root", 1);
        add(rows, "commit(0)=1");
        addForNumbers(rows, 1, k, "place", 1);
        addForNumbers(rows, k + 1, last, "place", 0);
        addForNumbers(rows, last + 1, lastBehind, "place", 1);
        run(rows);
    }

    // ---- 8: commit

    private static void promise08_whichCommitThisWas() {
        run("begin(0,0)=1", "begin(1,0)=1", "number(0)=1", "number(1)=2", "commit(1)=1", "commit(0)=2", "look(0,6)=2",
            "begin(0,1)=1", "number(0)=3", "commit(0)=3", "place(1)=2", "place(2)=1", "place(3)=3");
    }

    private static void promise08_asManyAs512CallsCanMake() {
        List<String> rows = commitsOneAfterTheOther(170);
        add(rows, "look(0,6)=170", "place(170)=170");
        run(rows);
    }

    private static void promise08_manyCommitsAndASnapshotOfThem() {
        List<String> rows = commitsOneAfterTheOther(150);
        add(rows, "begin(1,1)=1", "statement(1)=1", "look(1,4)=150", "sees(1,150,0,0,0)=1", "sees(1,127,0,0,0)=1",
            "sees(1,128,0,0,0)=1", "sees(1,1,0,0,0)=1", "dead(1,150)=1", "begin(0,0)=1", "number(0)=151",
            "commit(0)=151", "sees(1,151,0,0,0)=0", "sees(1,150,0,151,0)=1", "ending(1,150,0)=4", "ending(1,151,0)=5",
            "dead(150,151)=0", "place(1)=1", "place(127)=127", "place(128)=128", "place(150)=150", "place(151)=151",
            "look(0,6)=151", "statement(1)=2", "look(1,4)=150");
        run(rows);
    }

    private static List<String> commitsOneAfterTheOther(int count) {
        List<String> rows = new ArrayList<>();
        for (int c = 1; c <= count; c++) {
            add(rows, "begin(0,0)=1", "number(0)=" + c, "commit(0)=" + c);
        }
        return rows;
    }

    private static void promise08_eachSession() {
        run("begin(0,0)=1", "save(0)=1", "number(0)=2", "commit(0)=1", "state(1)=2", "state(2)=2",
            "look(0,0)=-1", "look(0,6)=1");
    }

    private static void promise08_allLevels() {
        run("begin(0,0)=1", "save(0)=1", "save(0)=2", "save(0)=3", "save(0)=4", "save(0)=5", "save(0)=6", "save(0)=7",
            "number(0)=8", "commit(0)=1", "place(1)=1", "place(2)=1", "place(7)=1", "place(8)=1");
    }

    private static void promise08_topWithoutANumber() {
        run("begin(0,0)=1", "number(0)=1", "save(0)=1", "commit(0)=1", "state(1)=2", "look(0,5)=1");
    }

    private static void promise08_abortedStayAborted() {
        run("begin(0,0)=1", "save(0)=1", "number(0)=2", "back(0,1)=1", "commit(0)=1", "state(1)=2", "state(2)=3",
            "place(2)=0");
    }

    private static void promise08_noRunningNumbers() {
        run("begin(0,0)=1", "commit(0)=0", "look(0,6)=0", "look(0,0)=-1", "commit(0)=-1", "begin(0,0)=1");
        run("begin(0,1)=1", "statement(0)=1", "save(0)=1", "commit(0)=0", "look(0,6)=0", "look(0,5)=0", "look(0,2)=-1");
    }

    private static void promise08_noRunningNumbersBesideOtherSessions() {
        run("begin(0,0)=1", "number(0)=1", "begin(1,0)=1", "commit(1)=0", "state(1)=1", "look(0,6)=0", "commit(0)=1");
    }

    private static void promise08_noRunningNumbersChangesOnlyItsSession() {
        changeNothingTogether("begin(4,0)=1", "commit(4)=0");
        changeNothingTogether("begin(3,1)=1", "statement(3)=1", "save(3)=1", "back(3,1)=1", "commit(3)=0");
    }

    private static void promise08_noRunningNumbersIsNoCommit() {
        run("begin(0,0)=1", "number(0)=1", "commit(0)=1", "begin(0,0)=1", "commit(0)=0", "look(0,6)=1", "begin(0,0)=1",
            "number(0)=2", "commit(0)=2");
    }

    private static void promise08_noRunningNumbersBehindEarlierTransactions() {
        run("begin(0,0)=1", "number(0)=1", "commit(0)=1", "begin(0,0)=1", "number(0)=2", "abort(0)=1", "begin(0,0)=1",
            "commit(0)=0", "place(1)=1", "state(2)=3", "place(2)=0");
    }

    private static void promise08_noTransaction() {
        run("commit(0)=-1", "look(0,6)=0", "begin(0,0)=1", "number(0)=1", "commit(0)=1", "commit(0)=-1",
            "look(0,6)=1", "place(1)=1");
        changesNothing("commit(3)=-1", "commit(4)=-1");
    }

    private static void promise08_noTransactionBehindAbortAndCrash() {
        run("begin(0,0)=1", "number(0)=1", "abort(0)=1", "commit(0)=-1", "state(1)=3", "look(0,6)=0");
        run("begin(0,0)=1", "number(0)=1", "crash()=0", "commit(0)=-1", "state(1)=3", "look(0,6)=0");
    }

    private static void promise08_noSuchSession() {
        changesNothing(NO_SESSIONS, "commit(#)=-1");
    }

    private static void promise08_otherSessionsRunOn() {
        run("begin(0,0)=1", "begin(1,0)=1", "number(0)=1", "save(1)=1", "number(1)=3", "commit(0)=1", "state(2)=1",
            "state(3)=1", "look(1,2)=1", "look(1,3)=3", "commit(1)=2", "place(1)=1", "place(3)=2");
    }

    private static void promise08_itsSnapshotIsLiveNoMore() {
        run("begin(1,1)=1", "statement(1)=1", "begin(0,0)=1", "number(0)=1", "commit(0)=1", "dead(1,1)=0",
            "number(1)=2", "commit(1)=2", "dead(1,1)=1", "look(1,4)=-1");
    }

    // ---- 9: abort

    private static void promise09_allLevels() {
        run("begin(0,0)=1", "save(0)=1", "save(0)=2", "number(0)=3", "abort(0)=1", "state(1)=3",
            "state(2)=3", "state(3)=3", "look(0,0)=-1", "look(0,5)=3");
    }

    private static void promise09_isNoCommit() {
        run("begin(0,0)=1", "number(0)=1", "abort(0)=1", "look(0,6)=0", "place(1)=0", "begin(0,0)=1", "number(0)=2",
            "commit(0)=1");
    }

    private static void promise09_withoutNumbers() {
        run("begin(0,1)=1", "abort(0)=1", "look(0,0)=-1", "abort(0)=0", "begin(0,0)=1", "look(0,0)=0");
    }

    private static void promise09_withoutNumbersChangesOnlyItsSession() {
        changeNothingTogether("begin(4,0)=1", "abort(4)=1");
        changeNothingTogether("begin(3,1)=1", "statement(3)=1", "save(3)=1", "release(3,1)=1", "abort(3)=1");
    }

    private static void promise09_releasedNumbersToo() {
        run("begin(0,0)=1", "save(0)=1", "number(0)=2", "release(0,1)=1", "abort(0)=1", "state(1)=3", "state(2)=3");
    }

    private static void promise09_noTransaction() {
        run("abort(0)=0", "begin(0,0)=1", "number(0)=1", "abort(0)=1", "abort(0)=0", "state(1)=3");
        changesNothing("abort(3)=0", "abort(4)=0");
    }

    private static void promise09_noTransactionBehindCommitAndCrash() {
        run("begin(0,0)=1", "number(0)=1", "commit(0)=1", "abort(0)=0", "state(1)=2", "place(1)=1");
        run("begin(0,0)=1", "number(0)=1", "crash()=0", "abort(0)=0", "state(1)=3");
    }

    private static void promise09_noSuchSession() {
        changesNothing(NO_SESSIONS, "abort(#)=0");
    }

    private static void promise09_otherSessionsRunOn() {
        run("begin(0,0)=1", "begin(1,0)=1", "number(0)=1", "number(1)=2", "abort(0)=1", "state(2)=1", "look(1,3)=2",
            "commit(1)=1", "state(1)=3", "state(2)=2");
    }

    private static void promise09_earlierTransactionsStay() {
        run("begin(0,0)=1", "number(0)=1", "commit(0)=1", "begin(0,0)=1", "number(0)=2", "abort(0)=1", "state(1)=2",
            "place(1)=1");
        run("begin(0,0)=1", "number(0)=1", "commit(0)=1", "begin(0,0)=1", "abort(0)=1", "state(1)=2", "place(1)=1");
    }

    private static void promise09_itsSnapshotIsLiveNoMore() {
        run("begin(1,1)=1", "statement(1)=1", "begin(0,0)=1", "number(0)=1", "commit(0)=1", "dead(1,1)=0", "abort(1)=1",
            "dead(1,1)=1", "look(1,4)=-1");
    }

    // ---- 10: crash

    private static void promise10_allThatRunsIsAborted() {
        List<String> rows = new ArrayList<>();
        for (int s : SESSIONS) {
            add(rows, "begin(" + s + ",0)=1", "save(" + s + ")=1", "number(" + s + ")=" + (2 * s + 2));
        }
        add(rows, "crash()=0");
        addForNumbers(rows, 1, 12, "state", 3);
        addForNumbers(rows, 1, 12, "place", 0);
        run(rows);
    }

    private static void promise10_noSessionHasATransaction() {
        List<String> rows = new ArrayList<>();
        for (int s : SESSIONS) {
            add(rows, "begin(" + s + "," + s % 2 + ")=1", "statement(" + s + ")=1");
        }
        add(rows, "crash()=0");
        for (int s : SESSIONS) {
            add(rows, "look(" + s + ",0)=-1", "look(" + s + ",4)=-1", "commit(" + s + ")=-1", "abort(" + s + ")=0");
        }
        run(rows);
    }

    private static void promise10_numbersGoOn() {
        run("begin(0,0)=1", "save(0)=1", "number(0)=2", "crash()=0", "look(0,5)=2", "begin(3,0)=1", "number(3)=3",
            "root(3)=3", "root(2)=1");
    }

    private static void promise10_commitsGoOn() {
        run("begin(0,0)=1", "number(0)=1", "commit(0)=1", "crash()=0", "look(0,6)=1", "begin(0,0)=1", "statement(0)=1",
            "look(0,4)=1", "number(0)=2", "commit(0)=2", "place(1)=1", "place(2)=2");
    }

    private static void promise10_committedAndAbortedStay() {
        run("begin(0,0)=1", "number(0)=1", "commit(0)=1", "begin(0,0)=1", "number(0)=2", "abort(0)=1", "begin(0,0)=1",
            "save(0)=1", "number(0)=4", "back(0,1)=1", "crash()=0", "state(1)=2", "place(1)=1", "state(2)=3",
            "state(3)=3", "state(4)=3");
    }

    private static void promise10_releasedNumbersToo() {
        run("begin(0,0)=1", "save(0)=1", "number(0)=2", "release(0,1)=1", "crash()=0", "state(1)=3", "state(2)=3");
    }

    private static void promise10_noSnapshotIsLive() {
        run("begin(1,1)=1", "statement(1)=1", "begin(5,1)=1", "statement(5)=1", "begin(0,0)=1", "number(0)=1",
            "commit(0)=1", "dead(1,1)=0", "crash()=0", "dead(1,1)=1", "sees(1,1,0,0,0)=0", "ending(5,1,0)=-1");
    }

    private static void promise10_ofNothingAndTwice() {
        run("crash()=0", "crash()=0", "look(0,5)=0", "look(0,6)=0", "begin(0,0)=1", "number(0)=1", "crash()=0",
            "crash()=0", "look(0,5)=1", "state(1)=3", "begin(0,0)=1", "number(0)=2", "commit(0)=1");
    }

    private static void promise10_transactionsBehindItAreNew() {
        run("begin(0,1)=1", "statement(0)=1", "save(0)=1", "number(0)=2", "crash()=0", "begin(0,0)=1",
            "look(0,0)=0", "look(0,1)=0", "look(0,2)=0", "look(0,3)=0", "look(0,4)=-1", "statement(0)=1",
            "sees(0,1,0,0,0)=0", "ending(0,1,0)=0");
    }

    // ---- 11: state

    private static void promise11_notGiven() {
        each(NO_NUMBERS, "state(#)=0", "begin(0,0)=1", "number(0)=1", "state(#)=0", "commit(0)=1", "state(#)=0");
        changesNothing(NO_NUMBERS, "state(#)=0");
    }

    private static void promise11_nextIsNotGiven() {
        run("state(1)=0", "begin(0,0)=1", "state(1)=0", "number(0)=1", "state(1)=1", "state(2)=0", "save(0)=1",
            "state(2)=0", "number(0)=2", "state(2)=1", "state(3)=0");
    }

    private static void promise11_running() {
        run("begin(0,0)=1", "save(0)=1", "number(0)=2", "state(1)=1", "state(2)=1", "release(0,1)=1", "state(2)=1");
        changesNothing("state(2)=1", "state(6)=1", "state(15)=1");
    }

    private static void promise11_committed() {
        run("begin(0,0)=1", "save(0)=1", "number(0)=2", "commit(0)=1", "state(1)=2", "state(2)=2");
        changesNothing("state(1)=2");
    }

    private static void promise11_abortedByBackAbortAndCrash() {
        run("begin(0,0)=1", "save(0)=1", "number(0)=2", "back(0,1)=1", "state(2)=3", "state(1)=1", "abort(0)=1",
            "state(1)=3", "begin(0,0)=1", "number(0)=3", "crash()=0", "state(3)=3");
        changesNothing("state(7)=3");
    }

    // ---- 12: root

    private static void promise12_notGiven() {
        each(NO_NUMBERS, "root(#)=0", "begin(0,0)=1", "number(0)=1", "root(#)=0", "commit(0)=1", "root(#)=0");
        run("root(1)=0", "begin(0,0)=1", "root(1)=0", "number(0)=1", "root(2)=0");
        changesNothing(NO_NUMBERS, "root(#)=0");
        changesNothing("root(16)=0");
    }

    private static void promise12_askingChangesNothing() {
        changesNothing("root(1)=1", "root(2)=2", "root(4)=2", "root(7)=6", "root(15)=8");
    }

    private static void promise12_itself() {
        run("begin(0,0)=1", "number(0)=1", "root(1)=1", "commit(0)=1", "begin(0,0)=1", "number(0)=2",
            "root(2)=2", "root(1)=1");
    }

    private static void promise12_ofUpperLevels() {
        run("begin(0,0)=1", "begin(1,0)=1", "number(0)=1", "save(1)=1", "save(1)=2", "number(1)=4", "save(0)=1",
            "number(0)=5", "root(1)=1", "root(2)=2", "root(3)=2", "root(4)=2", "root(5)=1");
    }

    private static void promise12_staysBehindReleaseAndBack() {
        run("begin(1,0)=1", "number(1)=1", "begin(0,0)=1", "save(0)=1", "save(0)=2", "number(0)=4", "release(0,2)=1",
            "root(4)=2", "back(0,1)=1", "root(3)=2", "root(4)=2", "number(0)=5", "root(5)=2");
    }

    private static void promise12_staysBehindTheEnd() {
        run("begin(0,0)=1", "save(0)=1", "number(0)=2", "commit(0)=1", "root(1)=1", "root(2)=1", "begin(0,0)=1",
            "save(0)=1", "number(0)=4", "abort(0)=1", "root(3)=3", "root(4)=3", "begin(0,0)=1", "save(0)=1",
            "number(0)=6", "crash()=0", "root(5)=5", "root(6)=5");
    }

    // ---- 13: place

    private static void promise13_notGiven() {
        each(NO_NUMBERS, "place(#)=0", "begin(0,0)=1", "number(0)=1", "place(#)=0", "commit(0)=1", "place(#)=0");
        run("place(1)=0", "begin(0,0)=1", "number(0)=1", "commit(0)=1", "place(2)=0");
        changesNothing(NO_NUMBERS, "place(#)=0");
        changesNothing("place(16)=0");
    }

    private static void promise13_askingChangesNothing() {
        changesNothing("place(1)=1", "place(2)=0", "place(7)=0", "place(15)=0");
    }

    private static void promise13_running() {
        run("begin(0,0)=1", "number(0)=1", "commit(0)=1", "begin(0,0)=1", "number(0)=2", "place(2)=0");
        changesNothing("place(2)=0");
    }

    private static void promise13_aborted() {
        run("begin(0,0)=1", "save(0)=1", "number(0)=2", "back(0,1)=1", "commit(0)=1", "place(1)=1", "place(2)=0",
            "begin(0,0)=1", "number(0)=3", "abort(0)=1", "place(3)=0", "begin(0,0)=1", "number(0)=4", "crash()=0",
            "place(4)=0");
    }

    private static void promise13_inTheOrderOfCommitsNotOfNumbers() {
        run("begin(0,0)=1", "begin(1,0)=1", "begin(2,0)=1", "number(0)=1", "number(1)=2", "number(2)=3", "commit(2)=1",
            "commit(0)=2", "commit(1)=3", "place(1)=2", "place(2)=3", "place(3)=1");
    }

    private static void promise13_staysBehindLaterCommits() {
        run("begin(0,0)=1", "save(0)=1", "number(0)=2", "commit(0)=1", "begin(0,0)=1", "number(0)=3", "commit(0)=2",
            "crash()=0", "place(1)=1", "place(2)=1", "place(3)=2");
    }

    // ---- 14: sees

    private static void promise14_noTransaction() {
        run("begin(0,0)=1", "statement(0)=1", "number(0)=1", "commit(0)=1", "sees(0,1,0,0,0)=0",
            "sees(0,1,-1,0,0)=0");
        changesNothing("sees(3,1,0,0,0)=0", "sees(4,1,0,0,0)=0");
    }

    private static void promise14_noTransactionBehindAbortAndCrash() {
        run("begin(1,0)=1", "number(1)=1", "commit(1)=1", "begin(0,0)=1", "statement(0)=1", "sees(0,1,0,0,0)=1",
            "abort(0)=1", "sees(0,1,0,0,0)=0", "begin(0,0)=1", "statement(0)=1", "sees(0,1,0,0,0)=1", "crash()=0",
            "sees(0,1,0,0,0)=0");
    }

    private static void promise14_noSuchSession() {
        each(NO_SESSIONS, "begin(0,0)=1", "number(0)=1", "commit(0)=1", "sees(#,1,0,0,0)=0", "sees(#,0,0,0,0)=0");
        changesNothing(NO_SESSIONS, "sees(#,1,0,0,0)=0");
    }

    private static void promise14_noSnapshot() {
        run("begin(1,0)=1", "number(1)=1", "commit(1)=1", "begin(0,0)=1", "sees(0,1,0,0,0)=0", "number(0)=2",
            "sees(0,2,-1,0,0)=0", "statement(0)=1", "sees(0,1,0,0,0)=1", "sees(0,2,-1,0,0)=1");
        changesNothing("sees(2,1,0,0,0)=0", "sees(5,8,-1,0,0)=0", "sees(5,1,0,0,0)=0");
    }

    private static void promise14_madeWasNotGiven() {
        each(NO_NUMBERS, "begin(1,0)=1", "number(1)=1", "commit(1)=1", "begin(0,0)=1", "statement(0)=1", "number(0)=2",
            "sees(0,#,0,0,0)=0", "sees(0,#,-1,0,0)=0", "sees(0,#,0,1,0)=0", "sees(0,#,0,#,0)=0");
        run("begin(0,0)=1", "statement(0)=1", "sees(0,1,0,0,0)=0", "number(0)=1", "sees(0,1,0,0,0)=1",
            "sees(0,2,0,0,0)=0");
        changesNothing(NO_NUMBERS, "sees(0,#,0,0,0)=0");
        changesNothing("sees(0,16,0,0,0)=0");
    }

    private static void promise14_notEnded() {
        run("begin(1,0)=1", "number(1)=1", "commit(1)=1", "begin(0,0)=1", "statement(0)=1", "sees(0,1,0,0,0)=1",
            "sees(0,1,0,0,-2147483648)=1", "sees(0,1,0,0,2147483647)=1");
    }

    private static void promise14_endedWasNotGiven() {
        each(NO_NUMBERS, "begin(1,0)=1", "number(1)=1", "commit(1)=1", "begin(0,0)=1", "statement(0)=1", "number(0)=2",
            "sees(0,1,0,#,0)=1", "sees(0,1,0,#,-1)=1", "sees(0,2,0,#,0)=1");
        run("begin(0,0)=1", "statement(0)=1", "number(0)=1", "sees(0,1,0,2,0)=1");
    }

    private static void promise14_makerAborted() {
        run("begin(1,0)=1", "number(1)=1", "begin(0,0)=1", "statement(0)=1", "abort(1)=1", "statement(0)=2",
            "sees(0,1,0,0,0)=0", "sees(0,1,-1,0,0)=0");
    }

    private static void promise14_ownMakerAborted() {
        run("begin(0,0)=1", "save(0)=1", "number(0)=2", "statement(0)=1", "sees(0,2,0,0,0)=1", "back(0,1)=1",
            "sees(0,2,0,0,0)=0", "sees(0,2,-1,0,0)=0", "sees(0,1,0,0,0)=1");
    }

    private static void promise14_abortedNumberOfACommittedTransaction() {
        run("begin(1,0)=1", "save(1)=1", "number(1)=2", "back(1,1)=1", "commit(1)=1", "begin(0,0)=1", "statement(0)=1",
            "sees(0,1,0,0,0)=1", "sees(0,2,0,0,0)=0", "sees(0,1,0,2,0)=1");
    }

    private static void promise14_enderAborted() {
        run("begin(1,0)=1", "number(1)=1", "commit(1)=1", "begin(0,0)=1", "save(0)=1", "number(0)=3", "statement(0)=1",
            "sees(0,1,0,3,0)=0", "back(0,1)=1", "sees(0,1,0,3,0)=1", "begin(2,0)=1", "number(2)=4", "abort(2)=1",
            "statement(0)=2", "sees(0,1,0,4,0)=1");
    }

    private static void promise14_ownMadeInALesserCommand() {
        run("begin(0,0)=1", "statement(0)=1", "number(0)=1", "sees(0,1,0,0,0)=1", "sees(0,1,1,0,0)=0",
            "sees(0,1,2,0,0)=0", "statement(0)=2", "sees(0,1,1,0,0)=1", "sees(0,1,2,0,0)=0", "sees(0,1,3,0,0)=0");
    }

    private static void promise14_ownMadeInTheLeastAndTheGreatestCommand() {
        run("begin(0,0)=1", "statement(0)=1", "number(0)=1", "sees(0,1,-1,0,0)=1", "sees(0,1,-2147483648,0,0)=1",
            "sees(0,1,2147483647,0,0)=0");
    }

    private static void promise14_ownEndedInALesserCommand() {
        run("begin(0,0)=1", "number(0)=1", "statement(0)=1", "statement(0)=2", "sees(0,1,0,1,1)=0",
            "sees(0,1,0,1,2)=1", "sees(0,1,0,1,3)=1", "sees(0,1,0,1,-2147483648)=0", "sees(0,1,0,1,2147483647)=1");
    }

    private static void promise14_neitherMakingNorEndingSeen() {
        run("begin(0,0)=1", "number(0)=1", "statement(0)=1", "statement(0)=2", "sees(0,1,2,1,2)=0",
            "sees(0,1,2,1,1)=0", "sees(0,1,3,1,2)=0");
    }

    private static void promise14_ownOfEachLevel() {
        run("begin(0,0)=1", "save(0)=1", "save(0)=2", "number(0)=3", "statement(0)=1", "sees(0,1,0,0,0)=1",
            "sees(0,2,0,0,0)=1", "sees(0,3,0,0,0)=1", "sees(0,3,1,0,0)=0", "release(0,1)=1", "sees(0,3,0,0,0)=1",
            "sees(0,3,1,0,0)=0");
    }

    private static void promise14_runningElsewhere() {
        run("begin(1,0)=1", "number(1)=1", "begin(0,0)=1", "statement(0)=1", "number(0)=2", "sees(0,1,0,0,0)=0",
            "sees(0,1,-1,0,0)=0", "sees(0,2,0,1,0)=1", "sees(0,2,0,1,-1)=1");
    }

    private static void promise14_runningElsewhereForASessionWithoutNumbers() {
        run("begin(1,0)=1", "number(1)=1", "begin(0,0)=1", "statement(0)=1", "sees(0,1,0,0,0)=0", "sees(0,1,-1,0,0)=0");
    }

    private static void promise14_committedByTheLastCommitOfTheSnapshot() {
        run("begin(1,0)=1", "number(1)=1", "commit(1)=1", "begin(1,0)=1", "number(1)=2", "commit(1)=2", "begin(0,1)=1",
            "statement(0)=1", "begin(1,0)=1", "number(1)=3", "commit(1)=3", "sees(0,1,0,0,0)=1", "sees(0,2,0,0,0)=1",
            "sees(0,3,0,0,0)=0", "sees(0,1,0,2,0)=0", "sees(0,1,0,3,0)=1", "sees(0,3,0,2,0)=0");
    }

    private static void promise14_commandOfAnotherIsNotAsked() {
        run("begin(1,0)=1", "number(1)=1", "commit(1)=1", "begin(1,0)=1", "number(1)=2", "commit(1)=2", "begin(0,0)=1",
            "statement(0)=1", "sees(0,1,2147483647,0,0)=1", "sees(0,1,-2147483648,0,0)=1",
            "sees(0,1,0,2,2147483647)=0", "sees(0,1,0,2,-2147483648)=0");
    }

    private static void promise14_mode0SeesMoreBehindAStatement() {
        run("begin(0,0)=1", "statement(0)=1", "begin(1,0)=1", "number(1)=1", "commit(1)=1", "sees(0,1,0,0,0)=0",
            "statement(0)=2", "sees(0,1,0,0,0)=1");
    }

    private static void promise14_mode1SeesNoMoreBehindAStatement() {
        run("begin(0,1)=1", "statement(0)=1", "begin(1,0)=1", "number(1)=1", "commit(1)=1", "sees(0,1,0,0,0)=0",
            "statement(0)=2", "sees(0,1,0,0,0)=0", "begin(2,1)=1", "statement(2)=1", "sees(2,1,0,0,0)=1");
    }

    private static void promise14_earlierTransactionOfTheSameSession() {
        run("begin(0,0)=1", "number(0)=1", "commit(0)=1", "begin(0,0)=1", "statement(0)=1", "sees(0,1,7,0,0)=1",
            "number(0)=2", "sees(0,1,7,0,0)=1", "sees(0,2,7,0,0)=0");
    }

    private static void promise14_eachSessionHasItsOwnSnapshot() {
        each(new int[] {1, 2, 3, 4, 5}, "begin(#,1)=1", "statement(#)=1", "begin(0,0)=1", "number(0)=1", "commit(0)=1",
            "begin(0,0)=1", "statement(0)=1", "sees(#,1,0,0,0)=0", "sees(0,1,0,0,0)=1");
    }

    private static void promise14_madeAndEndedByTheSameNumber() {
        run("begin(1,0)=1", "number(1)=1", "commit(1)=1", "begin(0,0)=1", "statement(0)=1", "sees(0,1,0,1,0)=0",
            "begin(2,0)=1", "number(2)=2", "sees(0,2,0,2,0)=0");
    }

    private static void promise14_askingChangesNothing() {
        changesNothing("sees(0,1,0,0,0)=1", "sees(0,2,0,0,0)=1", "sees(0,2,1,0,0)=0", "sees(0,2,0,5,0)=0",
            "sees(0,2,0,5,1)=1", "sees(0,1,0,4,0)=0", "sees(0,1,0,6,0)=1", "sees(0,7,0,0,0)=0", "sees(0,1,0,7,0)=1",
            "sees(1,1,0,0,0)=0", "sees(1,6,0,1,0)=1", "sees(1,6,0,6,0)=0");
    }

    // ---- 15: ending

    private static void promise15_noTransaction() {
        run("ending(0,0,0)=-1", "begin(0,0)=1", "statement(0)=1", "number(0)=1", "commit(0)=1",
            "ending(0,1,0)=-1", "ending(0,0,0)=-1");
        changesNothing("ending(3,1,0)=-1", "ending(4,1,0)=-1", "ending(4,0,0)=-1");
    }

    private static void promise15_noTransactionBehindAbortAndCrash() {
        run("begin(0,0)=1", "statement(0)=1", "ending(0,0,0)=0", "abort(0)=1", "ending(0,0,0)=-1", "begin(0,0)=1",
            "statement(0)=1", "ending(0,0,0)=0", "crash()=0", "ending(0,0,0)=-1");
    }

    private static void promise15_noSuchSession() {
        each(NO_SESSIONS, "begin(0,0)=1", "number(0)=1", "commit(0)=1", "ending(#,1,0)=-1", "ending(#,0,0)=-1");
        changesNothing(NO_SESSIONS, "ending(#,1,0)=-1");
    }

    private static void promise15_noSnapshot() {
        run("begin(0,0)=1", "ending(0,0,0)=-1", "number(0)=1", "ending(0,1,-1)=-1", "ending(0,2,0)=-1", "begin(1,0)=1",
            "number(1)=2", "abort(1)=1", "ending(0,2,0)=-1", "statement(0)=1", "ending(0,0,0)=0", "ending(0,1,-1)=1",
            "ending(0,2,0)=0");
        changesNothing("ending(2,1,0)=-1", "ending(2,0,0)=-1", "ending(5,8,0)=-1");
    }

    private static void promise15_none() {
        each(NO_NUMBERS, "begin(0,0)=1", "statement(0)=1", "ending(0,#,0)=0", "number(0)=1", "ending(0,#,0)=0",
            "ending(0,#,-1)=0");
        run("begin(0,0)=1", "statement(0)=1", "ending(0,1,0)=0", "number(0)=1", "ending(0,1,0)=1", "ending(0,2,0)=0");
        changesNothing(NO_NUMBERS, "ending(0,#,0)=0", "ending(1,#,0)=0");
    }

    private static void promise15_abortedElsewhere() {
        run("begin(0,0)=1", "begin(1,0)=1", "statement(1)=1", "number(0)=1", "ending(1,1,0)=3", "abort(0)=1",
            "ending(1,1,0)=0", "statement(1)=2", "ending(1,1,0)=0");
        changesNothing("ending(0,7,0)=0");
    }

    private static void promise15_abortedItsOwn() {
        run("begin(1,0)=1", "statement(1)=1", "save(1)=1", "number(1)=2", "ending(1,2,0)=1", "ending(1,2,1)=2",
            "back(1,1)=1", "ending(1,2,0)=0", "ending(1,2,1)=0", "ending(1,1,0)=1");
        changesNothing("ending(1,7,0)=0");
    }

    private static void promise15_itsOwnSeenOrNot() {
        run("begin(0,0)=1", "statement(0)=1", "number(0)=1", "ending(0,1,0)=1", "ending(0,1,1)=2", "ending(0,1,2)=2",
            "statement(0)=2", "ending(0,1,1)=1", "ending(0,1,2)=2", "ending(0,1,-2147483648)=1",
            "ending(0,1,2147483647)=2");
    }

    private static void promise15_itsOwnOfEachLevel() {
        run("begin(0,0)=1", "save(0)=1", "number(0)=2", "statement(0)=1", "ending(0,1,0)=1", "ending(0,2,0)=1",
            "ending(0,2,1)=2", "release(0,1)=1", "ending(0,2,0)=1", "ending(0,2,1)=2");
    }

    private static void promise15_runningElsewhere() {
        run("begin(0,0)=1", "statement(0)=1", "begin(1,0)=1", "save(1)=1", "number(1)=2", "ending(0,1,0)=3",
            "ending(0,2,0)=3", "ending(0,2,-2147483648)=3", "ending(0,2,2147483647)=3", "number(0)=3",
            "ending(0,1,0)=3", "ending(0,3,0)=1");
    }

    private static void promise15_committedSeenOrNot() {
        run("begin(1,0)=1", "number(1)=1", "commit(1)=1", "begin(1,0)=1", "number(1)=2", "commit(1)=2", "begin(0,1)=1",
            "statement(0)=1", "begin(1,0)=1", "number(1)=3", "commit(1)=3", "ending(0,1,0)=4", "ending(0,2,0)=4",
            "ending(0,3,0)=5", "statement(0)=2", "ending(0,3,0)=5");
        run("begin(0,0)=1", "statement(0)=1", "begin(1,0)=1", "number(1)=1", "commit(1)=1", "ending(0,1,0)=5",
            "statement(0)=2", "ending(0,1,0)=4");
    }

    private static void promise15_commandOfAnotherIsNotAsked() {
        run("begin(1,0)=1", "number(1)=1", "commit(1)=1", "begin(0,1)=1", "statement(0)=1", "begin(1,0)=1",
            "number(1)=2", "commit(1)=2", "ending(0,1,-2147483648)=4", "ending(0,1,2147483647)=4",
            "ending(0,2,-2147483648)=5", "ending(0,2,2147483647)=5");
    }

    private static void promise15_earlierTransactionOfTheSameSession() {
        run("begin(0,0)=1", "number(0)=1", "commit(0)=1", "begin(0,0)=1", "statement(0)=1", "ending(0,1,9)=4",
            "number(0)=2", "ending(0,1,9)=4", "ending(0,2,9)=2");
    }

    private static void promise15_askingChangesNothing() {
        changesNothing("ending(0,2,0)=1", "ending(0,5,1)=2", "ending(0,6,0)=3", "ending(0,1,0)=4", "ending(1,1,0)=5",
            "ending(1,6,0)=1", "ending(1,6,1)=2", "ending(1,15,0)=3");
    }

    // ---- 16: dead

    private static void promise16_madeWasNotGiven() {
        each(NO_NUMBERS, "begin(0,0)=1", "number(0)=1", "commit(0)=1", "dead(#,0)=0", "dead(#,1)=0", "dead(#,#)=0");
        run("begin(0,0)=1", "number(0)=1", "commit(0)=1", "dead(2,1)=0", "dead(2,0)=0");
        changesNothing(NO_NUMBERS, "dead(#,1)=0");
        changesNothing("dead(16,1)=0");
    }

    private static void promise16_makerAborted() {
        run("begin(0,0)=1", "save(0)=1", "number(0)=2", "dead(1,0)=0", "dead(2,0)=0", "back(0,1)=1", "dead(1,0)=0",
            "dead(2,0)=1", "abort(0)=1", "dead(1,0)=1", "begin(0,0)=1", "number(0)=3", "dead(3,0)=0", "crash()=0",
            "dead(3,0)=1");
    }

    private static void promise16_makerAbortedWhateverItsEnd() {
        run("begin(0,0)=1", "number(0)=1", "abort(0)=1", "begin(0,0)=1", "number(0)=2", "begin(1,1)=1",
            "statement(1)=1", "dead(1,0)=1", "dead(1,1)=1", "dead(1,2)=1", "dead(1,9)=1", "dead(1,-1)=1",
            "commit(0)=1", "dead(1,2)=1");
        changesNothing("dead(7,0)=1", "dead(7,2)=1");
    }

    private static void promise16_notEnded() {
        run("begin(0,0)=1", "number(0)=1", "dead(1,0)=0", "commit(0)=1", "dead(1,0)=0");
        changesNothing("dead(1,0)=0");
    }

    private static void promise16_endedWasNotGiven() {
        each(NO_NUMBERS, "begin(0,0)=1", "number(0)=1", "dead(1,#)=0", "commit(0)=1", "dead(1,#)=0");
        run("begin(0,0)=1", "number(0)=1", "commit(0)=1", "dead(1,2)=0");
        changesNothing(NO_NUMBERS, "dead(1,#)=0", "dead(2,#)=0");
    }

    private static void promise16_endRunning() {
        run("begin(0,0)=1", "number(0)=1", "commit(0)=1", "begin(0,0)=1", "number(0)=2", "dead(1,2)=0", "dead(2,2)=0",
            "commit(0)=2", "dead(1,2)=1", "dead(2,2)=1");
    }

    private static void promise16_endAborted() {
        run("begin(0,0)=1", "number(0)=1", "commit(0)=1", "begin(0,0)=1", "number(0)=2", "abort(0)=1", "dead(1,2)=0");
        changesNothing("dead(1,7)=0");
    }

    private static void promise16_endCommittedAndNoLiveSnapshot() {
        run("begin(0,0)=1", "number(0)=1", "commit(0)=1", "dead(1,1)=1", "begin(0,0)=1", "number(0)=2", "commit(0)=2",
            "dead(1,2)=1");
    }

    private static void promise16_makerRunningAndEndCommitted() {
        run("begin(0,0)=1", "number(0)=1", "begin(1,0)=1", "number(1)=2", "commit(1)=1", "dead(1,2)=1", "dead(2,1)=0");
    }

    private static void promise16_transactionsWithoutASnapshotDontCount() {
        run("begin(5,1)=1", "begin(4,0)=1", "begin(0,0)=1", "number(0)=1", "commit(0)=1", "dead(1,1)=1",
            "statement(5)=1", "dead(1,1)=1");
    }

    private static void promise16_eachSessionsSnapshotCounts() {
        each(new int[] {1, 2, 3, 4, 5}, "begin(#,1)=1", "statement(#)=1", "begin(0,0)=1", "number(0)=1", "commit(0)=1",
            "dead(1,1)=0", "abort(#)=1", "dead(1,1)=1");
        run("begin(0,1)=1", "statement(0)=1", "begin(1,0)=1", "number(1)=1", "commit(1)=1", "dead(1,1)=0", "abort(0)=1",
            "dead(1,1)=1");
    }

    private static void promise16_everyLiveSnapshot() {
        run("begin(0,0)=1", "number(0)=1", "begin(3,1)=1", "statement(3)=1", "begin(4,1)=1", "statement(4)=1",
            "begin(5,0)=1", "statement(5)=1", "commit(0)=1", "dead(1,1)=0", "statement(5)=2", "dead(1,1)=0",
            "abort(3)=1", "dead(1,1)=0", "commit(4)=0", "dead(1,1)=1", "look(5,4)=1");
    }

    private static void promise16_lastCommitOfTheSnapshot() {
        run("begin(0,0)=1", "number(0)=1", "commit(0)=1", "begin(0,0)=1", "number(0)=2", "commit(0)=2", "begin(1,1)=1",
            "statement(1)=1", "begin(0,0)=1", "number(0)=3", "commit(0)=3", "dead(1,1)=1", "dead(1,2)=1",
            "dead(1,3)=0", "statement(1)=2", "dead(1,3)=0");
    }

    private static void promise16_mode0LetsItDieBehindAStatement() {
        run("begin(1,0)=1", "statement(1)=1", "begin(0,0)=1", "number(0)=1", "commit(0)=1", "dead(1,1)=0",
            "statement(1)=2", "dead(1,1)=1");
    }

    private static void promise16_askingChangesNothing() {
        changesNothing("dead(1,1)=0", "dead(2,1)=0", "dead(1,2)=0", "dead(7,1)=1");
    }

    // ---- 17: look

    private static void promise17_mode() {
        run("begin(0,0)=1", "look(0,0)=0", "commit(0)=0", "begin(0,1)=1", "look(0,0)=1");
    }

    private static void promise17_command() {
        run("begin(0,0)=1", "look(0,1)=0", "statement(0)=1", "look(0,1)=1", "statement(0)=2", "look(0,1)=2");
    }

    private static void promise17_levelOnTop() {
        run("begin(0,0)=1", "look(0,2)=0", "save(0)=1", "look(0,2)=1", "save(0)=2", "look(0,2)=2",
            "back(0,1)=1", "look(0,2)=1", "release(0,1)=1", "look(0,2)=0");
    }

    private static void promise17_itsNumber() {
        run("begin(0,0)=1", "save(0)=1", "number(0)=2", "look(0,3)=2", "release(0,1)=1", "look(0,3)=1");
    }

    private static void promise17_itsNumber0ForNone() {
        run("begin(0,0)=1", "look(0,3)=0", "number(0)=1", "save(0)=1", "look(0,3)=0", "number(0)=2",
            "back(0,1)=1", "look(0,3)=0", "look(0,3)=0", "look(0,5)=2");
        changesNothing("look(0,3)=0", "look(1,3)=0", "look(2,3)=0");
    }

    private static void promise17_commitsOfItsSnapshot() {
        each(new int[] {1, 2, 3, 4, 5}, "begin(#,0)=1", "statement(#)=1", "look(#,4)=0", "begin(0,0)=1", "number(0)=1",
            "commit(0)=1", "look(#,4)=0", "statement(#)=2", "look(#,4)=1");
    }

    private static void promise17_withoutASnapshot() {
        run("begin(0,0)=1", "look(0,4)=-1", "number(0)=1", "save(0)=1", "look(0,4)=-1", "statement(0)=1",
            "look(0,4)=0");
        changesNothing("look(2,4)=-1", "look(5,4)=-1");
    }

    private static void promise17_noTransaction() {
        run("begin(0,1)=1", "statement(0)=1", "number(0)=1", "commit(0)=1", "look(0,0)=-1", "look(0,1)=-1",
            "look(0,2)=-1", "look(0,3)=-1", "look(0,4)=-1");
        changesNothing("look(3,0)=-1", "look(3,1)=-1", "look(3,2)=-1", "look(3,3)=-1", "look(3,4)=-1", "look(4,0)=-1");
    }

    private static void promise17_noSuchSession() {
        each(NO_SESSIONS, "begin(0,0)=1", "begin(5,1)=1", "look(#,0)=-1", "look(#,1)=-1", "look(#,2)=-1",
            "look(#,3)=-1", "look(#,4)=-1", "look(#,7)=-1");
        changesNothing(NO_SESSIONS, "look(#,0)=-1", "look(#,3)=-1", "look(#,5)=15", "look(#,6)=1");
    }

    private static void promise17_anotherWhat() {
        each(NO_WHATS, "look(0,#)=-1", "look(-1,#)=-1", "look(6,#)=-1", "begin(0,0)=1", "number(0)=1", "statement(0)=1",
            "look(0,#)=-1", "commit(0)=1", "look(0,#)=-1");
        changesNothing(NO_WHATS, "look(0,#)=-1", "look(3,#)=-1");
    }

    private static void promise17_numbersGivenOfAnySessionAlsoNone() {
        each(SESSIONS, "look(#,5)=0", "begin(0,0)=1", "save(0)=1", "look(#,5)=0", "number(0)=2", "look(#,5)=2",
            "back(0,1)=1", "look(#,5)=2", "abort(0)=1", "look(#,5)=2", "crash()=0", "look(#,5)=2");
        each(NO_SESSIONS, "look(#,5)=0", "begin(0,0)=1", "save(0)=1", "number(0)=2", "look(#,5)=2", "commit(0)=1",
            "look(#,5)=2");
    }

    private static void promise17_commitsOfAnySessionAlsoNone() {
        each(SESSIONS, "look(#,6)=0", "begin(0,0)=1", "number(0)=1", "look(#,6)=0", "commit(0)=1", "look(#,6)=1",
            "begin(0,0)=1", "commit(0)=0", "look(#,6)=1", "crash()=0", "look(#,6)=1");
        each(NO_SESSIONS, "look(#,6)=0", "begin(0,0)=1", "number(0)=1", "commit(0)=1", "look(#,6)=1", "begin(0,0)=1",
            "number(0)=2", "look(#,6)=1");
    }

    private static void promise17_askingChangesNothing() {
        changesNothing("look(0,0)=0", "look(0,1)=1", "look(0,2)=3", "look(0,4)=1", "look(1,4)=0", "look(5,3)=15",
            "look(5,2)=7", "look(3,5)=15", "look(4,6)=1");
    }

    // ---- how a run is made

    private static void run(String... rows) {
        for (int turn : SESSIONS) {
            new Desk(turn).ask(rows);
        }
    }

    private static void run(List<String> rows) {
        run(rows.toArray(new String[0]));
    }

    private static void add(List<String> rows, String... more) {
        rows.addAll(Arrays.asList(more));
    }

    /** Session 0 with the levels 0 to top, which have the numbers 1 to top + 1. */
    private static List<String> levelsUpTo(int top) {
        List<String> rows = new ArrayList<>();
        add(rows, "begin(0,0)=1");
        addLevels(rows, 1, top);
        add(rows, "number(0)=" + (top + 1));
        return rows;
    }

    private static void addSaves(List<String> rows, int first, int last) {
        for (int level = first; level <= last; level++) {
            add(rows, "save(0)=" + level);
        }
    }

    /** New levels from first to last, each of which has no number yet. */
    private static void addLevels(List<String> rows, int first, int last) {
        for (int level = first; level <= last; level++) {
            add(rows, "save(0)=" + level, "look(0,3)=0");
        }
    }

    private static void addForNumbers(List<String> rows, int first, int last, String question, int answer) {
        for (int n = first; n <= last; n++) {
            add(rows, question + "(" + n + ")=" + answer);
        }
    }

    /** The same run for each value, which stands where the rows have #. */
    private static void each(int[] values, String... rows) {
        for (int value : values) {
            run(with(value, rows));
        }
    }

    private static String[] with(int value, String... rows) {
        String[] filled = new String[rows.length];
        for (int i = 0; i < rows.length; i++) {
            filled[i] = rows[i].replace("#", Integer.toString(value));
        }
        return filled;
    }

    private static void changesNothing(int[] values, String... rows) {
        for (int value : values) {
            changesNothing(with(value, rows));
        }
    }

    private static void changesNothing(String... rows) {
        for (String row : rows) {
            changeNothingTogether(row);
        }
    }

    /** With these rows and without them, the scene answers the same to all questions and to all deeds. */
    private static void changeNothingTogether(String... rows) {
        for (int turn : SESSIONS) {
            changeNothingTogether(turn, rows);
        }
    }

    private static void changeNothingTogether(int turn, String... rows) {
        new Desk(turn).ask(SCENE).ask(rows).ask(SCENE_TAKEN_APART);
        List<String> due = answersToAllQuestions(new Desk(turn).ask(SCENE));
        List<String> got = answersToAllQuestions(new Desk(turn).ask(SCENE).ask(rows));
        for (int i = 0; i < due.size(); i++) {
            if (!got.get(i).equals(due.get(i))) {
                fail("turn " + turn + ", behind " + String.join(", ", rows) + ": " + got.get(i) + ", without "
                    + due.get(i));
            }
        }
    }

    private static List<String> answersToAllQuestions(Desk x) {
        List<String> answers = new ArrayList<>();
        for (int s : SESSIONS) {
            for (int what = 0; what <= 6; what++) {
                answers.add(x.answer("look(" + s + "," + what + ")"));
            }
        }
        for (int n = 0; n <= SCENE_NUMBERS + 1; n++) {
            answers.add(x.answer("state(" + n + ")"));
            answers.add(x.answer("root(" + n + ")"));
            answers.add(x.answer("place(" + n + ")"));
            answers.add(x.answer("dead(" + n + ",1)"));
            answers.add(x.answer("dead(1," + n + ")"));
            for (int s : SESSIONS) {
                answers.add(x.answer("sees(" + s + "," + n + ",0,0,0)"));
                answers.add(x.answer("ending(" + s + "," + n + ",0)"));
                answers.add(x.answer("ending(" + s + "," + n + ",1)"));
            }
        }
        return answers;
    }

    /**
     * The document frees the answers behind 512 calls, within which no run can give 4000 numbers; so the tests
     * with this object hold the program to its limit, not to a promise.
     */
    private static Desk withNumbersGiven(int count) {
        Desk x = new Desk(0);
        for (int i = 0; i < count; i++) {
            x.desk.begin(0, 0);
            x.desk.number(0);
            x.desk.abort(0);
        }
        return x.ask("look(0,5)=" + count);
    }

    private static final class Desk {
        final SnapshotDesk desk = new SnapshotDesk();
        final int turn;
        int calls = 0;

        Desk(int turn) {
            this.turn = turn;
        }

        Desk ask(String... rows) {
            for (String row : rows) {
                String[] parts = row.split("=");
                String due = parts[0] + "=" + parts[1];
                String got = answer(parts[0]);
                if (!got.equals(due)) {
                    fail("turn " + turn + ", call " + calls + ": " + got + ", due is " + parts[1]);
                }
            }
            return this;
        }

        String answer(String call) {
            calls++;
            if (calls > CALLS_PROMISED) {
                fail("the test asks more than the document promises: " + call);
            }
            String[] parts = call.split("[(,)]");
            int[] a = new int[parts.length - 1];
            for (int i = 0; i < a.length; i++) {
                a[i] = Integer.parseInt(parts[i + 1]);
            }
            if (!WITHOUT_SESSION.contains(parts[0])) {
                a[0] = turned(a[0]);
            }
            return call + "=" + call(desk, parts[0], a);
        }

        int turned(int s) {
            return s >= 0 && s < SESSIONS.length ? (s + turn) % SESSIONS.length : s;
        }
    }

    private static int call(SnapshotDesk x, String method, int[] a) {
        switch (method) {
            case "begin": return bit(x.begin(a[0], a[1]));
            case "statement": return x.statement(a[0]);
            case "number": return x.number(a[0]);
            case "save": return x.save(a[0]);
            case "release": return bit(x.release(a[0], a[1]));
            case "back": return bit(x.back(a[0], a[1]));
            case "commit": return x.commit(a[0]);
            case "abort": return bit(x.abort(a[0]));
            case "crash": x.crash(); return 0;
            case "state": return x.state(a[0]);
            case "root": return x.root(a[0]);
            case "place": return x.place(a[0]);
            case "sees": return bit(x.sees(a[0], a[1], a[2], a[3], a[4]));
            case "ending": return x.ending(a[0], a[1], a[2]);
            case "dead": return bit(x.dead(a[0], a[1]));
            case "look": return x.look(a[0], a[1]);
            default: throw new IllegalArgumentException(method);
        }
    }

    private static int bit(boolean b) {
        return b ? 1 : 0;
    }

    private static void fail(String text) {
        wrong++;
        System.out.println(test + ": " + text);
    }
}
