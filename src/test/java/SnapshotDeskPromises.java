import java.lang.reflect.Constructor;
import java.lang.reflect.Field;
import java.lang.reflect.Method;
import java.lang.reflect.Modifier;
import java.util.Arrays;
import java.util.TreeSet;

/**
 * One group of runs for each promise, with answers worked out by hand from the document.
 * A run is a row of texts "call(arguments)=answer" on a new object; a boolean counts 1 or 0.
 */
public final class SnapshotDeskPromises {
    private static final int[] NO_SESSIONS = {-1, 6, 7, Integer.MIN_VALUE, Integer.MAX_VALUE};
    private static int wrong = 0;

    public static void main(String[] args) {
        face();
        newObject();
        begin();
        statement();
        number();
        save();
        release();
        back();
        commit();
        abort();
        crash();
        state();
        root();
        place();
        sees();
        ending();
        dead();
        look();
        noSuchSession();
        allNumbersGiven();
        System.out.println(wrong == 0 ? "all answers are as due" : wrong + " answers are not as due");
        if (wrong != 0) {
            System.exit(1);
        }
    }

    private static void face() {
        TreeSet<String> got = new TreeSet<>();
        for (Method m : SnapshotDesk.class.getDeclaredMethods()) {
            if (!Modifier.isPrivate(m.getModifiers())) {
                got.add(m.toString());
            }
        }
        for (Field f : SnapshotDesk.class.getDeclaredFields()) {
            if (!Modifier.isPrivate(f.getModifiers())) {
                got.add(f.toString());
            }
        }
        for (Constructor<?> c : SnapshotDesk.class.getDeclaredConstructors()) {
            got.add(c.toString());
        }
        TreeSet<String> want = new TreeSet<>(Arrays.asList(
            "public SnapshotDesk()",
            "public boolean SnapshotDesk.begin(int,int)",
            "public int SnapshotDesk.statement(int)",
            "public int SnapshotDesk.number(int)",
            "public int SnapshotDesk.save(int)",
            "public boolean SnapshotDesk.release(int,int)",
            "public boolean SnapshotDesk.back(int,int)",
            "public int SnapshotDesk.commit(int)",
            "public boolean SnapshotDesk.abort(int)",
            "public void SnapshotDesk.crash()",
            "public int SnapshotDesk.state(int)",
            "public int SnapshotDesk.root(int)",
            "public int SnapshotDesk.place(int)",
            "public boolean SnapshotDesk.sees(int,int,int,int,int)",
            "public int SnapshotDesk.ending(int,int,int)",
            "public boolean SnapshotDesk.dead(int,int)",
            "public int SnapshotDesk.look(int,int)"));
        if (!got.equals(want)) {
            fail("face: " + got + ", due is " + want);
        }
        if (!Modifier.isFinal(SnapshotDesk.class.getModifiers())) {
            fail("face: the class is not final");
        }
    }

    private static void newObject() {
        run("1 new", "look(0,5)=0", "look(0,6)=0", "state(1)=0", "root(1)=0", "place(1)=0", "dead(1,0)=0");
        for (int s = 0; s < 6; s++) {
            run("1 no transaction", "look(" + s + ",0)=-1", "look(" + s + ",4)=-1", "commit(" + s + ")=-1");
        }
    }

    private static void begin() {
        for (int s = 0; s < 6; s++) {
            run("2 each session", "begin(" + s + ",1)=1", "look(" + s + ",0)=1", "look(" + s + ",1)=0",
                "look(" + s + ",2)=0", "look(" + s + ",3)=0", "look(" + s + ",4)=-1", "look(0,5)=0");
        }
        run("2 has one", "begin(3,0)=1", "statement(3)=1", "save(3)=1", "begin(3,1)=0", "look(3,0)=0",
            "look(3,1)=1", "look(3,2)=1");
        run("2 no such mode", "begin(0,-1)=0", "begin(0,2)=0", "begin(0,-2147483648)=0", "begin(0,2147483647)=0",
            "look(0,0)=-1", "begin(0,0)=1");
        run("2 again", "begin(0,1)=1", "statement(0)=1", "statement(0)=2", "save(0)=1", "number(0)=2",
            "commit(0)=1", "begin(0,0)=1", "look(0,0)=0", "look(0,1)=0", "look(0,2)=0", "look(0,3)=0",
            "look(0,4)=-1");
    }

    private static void statement() {
        run("3 command", "begin(0,0)=1", "statement(0)=1", "statement(0)=2", "statement(0)=3", "look(0,1)=3",
            "begin(1,1)=1", "statement(1)=1", "look(0,1)=3");
        run("3 none", "statement(0)=-1", "begin(0,0)=1", "abort(0)=1", "statement(0)=-1", "look(0,1)=-1");
        run("3 snapshots", "begin(0,0)=1", "begin(1,1)=1", "statement(0)=1", "statement(1)=1", "begin(2,0)=1",
            "number(2)=1", "commit(2)=1", "look(0,4)=0", "look(1,4)=0", "statement(0)=2", "statement(1)=2",
            "look(0,4)=1", "look(1,4)=0");
        run("3 first of mode 1", "begin(1,1)=1", "begin(2,0)=1", "number(2)=1", "commit(2)=1", "look(1,4)=-1",
            "statement(1)=1", "look(1,4)=1");
        run("3 back leaves command", "begin(0,0)=1", "save(0)=1", "statement(0)=1", "back(0,1)=1",
            "look(0,1)=1", "look(0,4)=0", "statement(0)=2", "release(0,1)=1", "look(0,1)=2");
    }

    private static void number() {
        run("4 given once", "begin(0,0)=1", "look(0,3)=0", "number(0)=1", "number(0)=1", "look(0,3)=1",
            "look(0,5)=1");
        run("4 levels below first", "begin(0,0)=1", "save(0)=1", "save(0)=2", "number(0)=3", "root(1)=1",
            "root(2)=1", "root(3)=1", "state(1)=1", "state(2)=1", "look(0,5)=3", "release(0,2)=1", "number(0)=2",
            "release(0,1)=1", "number(0)=1", "look(0,5)=3");
        run("4 sessions share", "begin(0,0)=1", "begin(1,0)=1", "number(1)=1", "number(0)=2", "save(1)=1",
            "number(1)=3", "number(0)=2");
        run("4 once each", "begin(0,0)=1", "number(0)=1", "abort(0)=1", "begin(0,0)=1", "number(0)=2",
            "crash()=0", "begin(0,0)=1", "number(0)=3");
        run("4 none", "number(0)=-1", "look(0,5)=0", "begin(0,0)=1", "commit(0)=0", "number(0)=-1", "look(0,5)=0");
    }

    private static void save() {
        run("5 eight levels", "begin(0,0)=1", "save(0)=1", "save(0)=2", "save(0)=3", "save(0)=4", "save(0)=5",
            "save(0)=6", "save(0)=7", "save(0)=-1", "look(0,2)=7", "number(0)=8", "save(0)=-1", "look(0,3)=8",
            "release(0,7)=1", "save(0)=7", "save(0)=-1", "number(0)=9");
        run("5 none", "save(0)=-1", "begin(1,0)=1", "save(0)=-1", "save(1)=1");
        run("5 without a number", "begin(0,0)=1", "number(0)=1", "save(0)=1", "look(0,3)=0", "look(0,5)=1");
    }

    private static void release() {
        run("6 with those upon it", "begin(0,0)=1", "save(0)=1", "save(0)=2", "save(0)=3", "number(0)=4",
            "release(0,2)=1", "look(0,2)=1", "look(0,3)=2", "state(3)=1", "state(4)=1", "save(0)=2",
            "look(0,3)=0", "number(0)=5");
        run("6 belongs below", "begin(0,0)=1", "save(0)=1", "save(0)=2", "number(0)=3", "release(0,2)=1",
            "save(0)=2", "number(0)=4", "back(0,2)=1", "state(3)=1", "state(4)=3", "back(0,1)=1", "state(3)=3",
            "state(2)=3", "state(1)=1");
        run("6 twice down", "begin(0,0)=1", "save(0)=1", "save(0)=2", "number(0)=3", "release(0,1)=1",
            "save(0)=1", "number(0)=4", "back(0,1)=1", "state(2)=1", "state(3)=1", "state(4)=3", "commit(0)=1",
            "place(3)=1", "place(4)=0");
        run("6 no such level", "release(0,1)=0", "begin(0,0)=1", "release(0,0)=0", "release(0,1)=0",
            "release(0,-1)=0", "save(0)=1", "release(0,0)=0", "release(0,2)=0", "release(0,8)=0",
            "release(0,-2147483648)=0", "release(0,2147483647)=0", "look(0,2)=1", "release(0,1)=1",
            "release(0,1)=0", "look(0,2)=0");
        run("6 other sessions stay", "begin(0,0)=1", "begin(1,0)=1", "save(0)=1", "save(1)=1", "number(0)=2",
            "number(1)=4", "release(0,1)=1", "back(1,1)=1", "state(2)=1", "state(4)=3", "look(1,2)=1");
    }

    private static void back() {
        run("7 stays on top", "begin(0,0)=1", "save(0)=1", "save(0)=2", "save(0)=3", "number(0)=4", "back(0,2)=1",
            "look(0,2)=2", "look(0,3)=0", "state(1)=1", "state(2)=1", "state(3)=3", "state(4)=3", "number(0)=5",
            "save(0)=3", "look(0,3)=0", "number(0)=6");
        run("7 again and again", "begin(0,0)=1", "save(0)=1", "number(0)=2", "back(0,1)=1", "back(0,1)=1",
            "number(0)=3", "back(0,1)=1", "state(2)=3", "state(3)=3", "number(0)=4", "commit(0)=1", "place(4)=1",
            "place(3)=0", "state(3)=3");
        run("7 no such level", "back(0,1)=0", "begin(0,0)=1", "number(0)=1", "back(0,0)=0", "back(0,1)=0",
            "back(0,-1)=0", "save(0)=1", "number(0)=2", "back(0,0)=0", "back(0,2)=0", "back(0,-2147483648)=0",
            "back(0,2147483647)=0", "state(1)=1", "state(2)=1", "look(0,3)=2");
        run("7 without numbers", "begin(0,0)=1", "save(0)=1", "save(0)=2", "back(0,1)=1", "look(0,2)=1",
            "look(0,5)=0", "number(0)=2", "root(2)=1");
        run("7 other sessions stay", "begin(0,0)=1", "begin(1,0)=1", "save(0)=1", "save(1)=1", "number(0)=2",
            "number(1)=4", "back(0,1)=1", "state(4)=1", "state(2)=3");
    }

    private static void commit() {
        run("8 next commit", "begin(0,0)=1", "begin(1,0)=1", "number(0)=1", "number(1)=2", "commit(1)=1",
            "commit(0)=2", "state(1)=2", "state(2)=2", "look(0,6)=2");
        run("8 none running", "begin(0,0)=1", "statement(0)=1", "save(0)=1", "commit(0)=0", "look(0,6)=0",
            "look(0,0)=-1", "commit(0)=-1", "begin(0,0)=1");
        run("8 none", "commit(0)=-1", "look(0,6)=0");
        run("8 all levels", "begin(0,0)=1", "save(0)=1", "save(0)=2", "number(0)=3", "commit(0)=1", "place(1)=1",
            "place(2)=1", "place(3)=1", "look(0,2)=-1");
        run("8 others run on", "begin(0,0)=1", "begin(1,0)=1", "number(0)=1", "number(1)=2", "commit(0)=1",
            "state(2)=1", "look(1,3)=2");
    }

    private static void abort() {
        run("9 all levels", "begin(0,0)=1", "save(0)=1", "number(0)=2", "abort(0)=1", "state(1)=3", "state(2)=3",
            "look(0,0)=-1", "look(0,6)=0", "abort(0)=0");
        run("9 none", "abort(0)=0", "begin(0,0)=1", "abort(0)=1", "abort(0)=0", "begin(0,1)=1");
        run("9 others run on", "begin(0,0)=1", "begin(1,0)=1", "number(0)=1", "number(1)=2", "abort(0)=1",
            "state(2)=1", "commit(1)=1", "state(1)=3", "state(2)=2");
        run("9 committed stays", "begin(0,0)=1", "number(0)=1", "commit(0)=1", "begin(0,0)=1", "number(0)=2",
            "abort(0)=1", "state(1)=2", "place(1)=1");
    }

    private static void crash() {
        run("10 crash", "begin(0,0)=1", "number(0)=1", "commit(0)=1", "begin(0,0)=1", "begin(5,1)=1",
            "statement(5)=1", "save(5)=1", "number(5)=3", "number(0)=4", "crash()=0", "state(1)=2", "state(2)=3",
            "state(3)=3", "state(4)=3", "look(0,0)=-1", "look(5,0)=-1", "look(0,5)=4", "look(0,6)=1",
            "sees(5,1,0,0,0)=0", "begin(5,0)=1", "look(5,2)=0", "number(5)=5", "commit(5)=2");
        run("10 snapshot not live", "begin(1,1)=1", "statement(1)=1", "begin(0,0)=1", "number(0)=1", "commit(0)=1",
            "dead(1,1)=0", "crash()=0", "dead(1,1)=1");
        run("10 of nothing", "crash()=0", "crash()=0", "look(0,5)=0", "look(0,6)=0");
    }

    private static void state() {
        run("11 state", "begin(0,0)=1", "save(0)=1", "number(0)=2", "back(0,1)=1", "state(1)=1", "state(2)=3",
            "state(3)=0", "commit(0)=1", "state(1)=2", "state(2)=3");
        run("11 not given", "begin(0,0)=1", "number(0)=1", "state(0)=0", "state(-1)=0", "state(2)=0", "state(4000)=0",
            "state(4001)=0", "state(-2147483648)=0", "state(2147483647)=0");
    }

    private static void root() {
        run("12 root", "begin(0,0)=1", "begin(1,0)=1", "number(0)=1", "save(1)=1", "number(1)=3", "save(0)=1",
            "number(0)=4", "root(1)=1", "root(2)=2", "root(3)=2", "root(4)=1", "release(0,1)=1", "back(1,1)=1",
            "number(1)=5", "commit(0)=1", "abort(1)=1", "root(4)=1", "root(3)=2", "root(5)=2", "begin(0,0)=1",
            "number(0)=6", "root(6)=6");
        run("12 not given", "begin(0,0)=1", "number(0)=1", "root(0)=0", "root(-1)=0", "root(2)=0", "root(4001)=0",
            "root(-2147483648)=0", "root(2147483647)=0");
    }

    private static void place() {
        run("13 place", "begin(0,0)=1", "begin(1,0)=1", "save(0)=1", "number(0)=2", "number(1)=3", "place(1)=0",
            "commit(1)=1", "back(0,1)=1", "commit(0)=2", "place(1)=2", "place(2)=0", "place(3)=1");
        run("13 none", "begin(0,0)=1", "number(0)=1", "abort(0)=1", "place(1)=0", "place(0)=0", "place(-1)=0",
            "place(2)=0", "place(4001)=0", "place(-2147483648)=0", "place(2147483647)=0");
    }

    private static void sees() {
        run("14 own by command", "begin(0,0)=1", "statement(0)=1", "number(0)=1", "sees(0,1,0,0,0)=1",
            "sees(0,1,1,0,0)=0", "sees(0,1,2,0,0)=0", "sees(0,1,-2147483648,0,0)=1", "sees(0,1,2147483647,0,0)=0",
            "statement(0)=2", "sees(0,1,1,0,0)=1", "sees(0,1,2,0,0)=0");
        run("14 own end by command", "begin(0,0)=1", "number(0)=1", "statement(0)=1", "statement(0)=2",
            "sees(0,1,0,1,1)=0", "sees(0,1,0,1,2)=1", "sees(0,1,0,1,3)=1", "sees(0,1,2,1,2)=0");
        run("14 no snapshot", "begin(1,0)=1", "number(1)=1", "commit(1)=1", "sees(0,1,0,0,0)=0", "begin(0,0)=1",
            "sees(0,1,0,0,0)=0", "number(0)=2", "sees(0,2,-1,0,0)=0", "statement(0)=1", "sees(0,1,0,0,0)=1",
            "sees(0,2,-1,0,0)=1");
        run("14 not given", "begin(0,0)=1", "statement(0)=1", "number(0)=1", "sees(0,0,0,0,0)=0",
            "sees(0,2,0,0,0)=0", "sees(0,-1,0,0,0)=0", "sees(0,4001,0,0,0)=0", "sees(0,1,0,2,0)=1",
            "sees(0,1,0,-1,0)=1", "sees(0,1,0,2147483647,0)=1", "sees(0,1,0,-2147483648,0)=1");
        run("14 others", "begin(1,0)=1", "number(1)=1", "begin(0,1)=1", "statement(0)=1", "sees(0,1,0,0,0)=0",
            "commit(1)=1", "sees(0,1,0,0,0)=0", "statement(0)=2", "sees(0,1,0,0,0)=0", "begin(2,0)=1",
            "statement(2)=1", "sees(2,1,2147483647,0,0)=1", "begin(3,0)=1", "number(3)=2", "sees(2,1,0,2,0)=1",
            "commit(3)=2", "sees(2,1,0,2,0)=1", "statement(2)=2", "sees(2,1,0,2,0)=0", "sees(2,1,0,2,2147483647)=0",
            "sees(2,2,0,0,0)=1");
        run("14 aborted", "begin(1,0)=1", "number(1)=1", "commit(1)=1", "begin(0,0)=1", "save(0)=1", "number(0)=3",
            "statement(0)=1", "sees(0,3,0,0,0)=1", "sees(0,1,0,3,0)=0", "back(0,1)=1", "sees(0,3,0,0,0)=0",
            "sees(0,1,0,3,0)=1", "sees(0,2,0,0,0)=1");
        run("14 older of the same session", "begin(0,0)=1", "number(0)=1", "commit(0)=1", "begin(0,0)=1",
            "statement(0)=1", "sees(0,1,7,0,0)=1", "number(0)=2", "sees(0,1,7,0,0)=1", "sees(0,2,7,0,0)=0");
        run("14 released", "begin(0,0)=1", "save(0)=1", "number(0)=2", "release(0,1)=1", "statement(0)=1",
            "sees(0,2,0,0,0)=1", "sees(0,2,1,0,0)=0");
    }

    private static void ending() {
        run("15 kinds", "begin(0,0)=1", "number(0)=1", "commit(0)=1", "begin(1,1)=1", "statement(1)=1",
            "number(1)=2", "begin(0,0)=1", "number(0)=3", "ending(1,0,0)=0", "ending(1,1,0)=4", "ending(1,1,9)=4",
            "ending(1,2,0)=1", "ending(1,2,1)=2", "ending(1,2,2)=2", "ending(1,3,0)=3", "ending(1,4,0)=0",
            "commit(0)=2", "ending(1,3,0)=5", "statement(1)=2", "ending(1,3,0)=5", "ending(1,2,1)=1");
        run("15 aborted", "begin(0,0)=1", "begin(1,0)=1", "statement(1)=1", "number(0)=1", "ending(1,1,0)=3",
            "abort(0)=1", "ending(1,1,0)=0", "save(1)=1", "number(1)=3", "ending(1,3,0)=1", "back(1,1)=1",
            "ending(1,3,0)=0", "ending(1,2,0)=1");
        run("15 no snapshot", "ending(0,0,0)=-1", "begin(0,0)=1", "ending(0,0,0)=-1", "number(0)=1",
            "ending(0,1,-1)=-1", "statement(0)=1", "ending(0,0,0)=0", "ending(0,1,-1)=1", "commit(0)=1",
            "ending(0,1,0)=-1");
        run("15 not given", "begin(0,0)=1", "statement(0)=1", "ending(0,-1,0)=0", "ending(0,1,0)=0",
            "ending(0,4001,0)=0", "ending(0,-2147483648,0)=0", "ending(0,2147483647,0)=0");
    }

    private static void dead() {
        run("16 aborted maker", "begin(0,0)=1", "number(0)=1", "dead(1,0)=0", "abort(0)=1", "dead(1,0)=1",
            "dead(1,1)=1", "dead(1,9)=1", "dead(0,1)=0", "dead(2,1)=0", "dead(-1,1)=0", "dead(-2147483648,1)=0",
            "dead(2147483647,1)=0");
        run("16 end", "begin(0,0)=1", "number(0)=1", "commit(0)=1", "dead(1,0)=0", "dead(1,2)=0", "dead(1,-1)=0",
            "dead(1,2147483647)=0", "dead(1,-2147483648)=0", "begin(0,0)=1", "number(0)=2", "dead(1,2)=0",
            "abort(0)=1", "dead(1,2)=0", "begin(0,0)=1", "number(0)=3", "commit(0)=2", "dead(1,3)=1");
        run("16 live snapshots", "begin(0,0)=1", "number(0)=1", "begin(4,1)=1", "statement(4)=1", "begin(5,0)=1",
            "statement(5)=1", "commit(0)=1", "dead(1,1)=0", "statement(4)=2", "statement(5)=2", "dead(1,1)=0",
            "abort(4)=1", "dead(1,1)=1");
        run("16 first session", "begin(0,1)=1", "statement(0)=1", "begin(1,0)=1", "number(1)=1", "commit(1)=1",
            "dead(1,1)=0", "statement(0)=2", "dead(1,1)=0", "commit(0)=0", "dead(1,1)=1");
        run("16 last session", "begin(5,0)=1", "statement(5)=1", "begin(0,0)=1", "number(0)=1", "commit(0)=1",
            "dead(1,1)=0", "statement(5)=2", "dead(1,1)=1", "commit(5)=0", "dead(1,1)=1");
        run("16 no snapshot yet", "begin(5,1)=1", "begin(0,0)=1", "number(0)=1", "commit(0)=1", "dead(1,1)=1");
        run("16 not given, ended", "begin(0,0)=1", "number(0)=1", "commit(0)=1", "dead(2,1)=0", "dead(0,1)=0");
    }

    private static void look() {
        run("17 look", "begin(2,1)=1", "look(2,0)=1", "look(2,1)=0", "look(2,2)=0", "look(2,3)=0", "look(2,4)=-1",
            "look(2,5)=0", "look(2,6)=0", "look(2,7)=-1", "look(2,-1)=-1", "look(2,2147483647)=-1",
            "look(2,-2147483648)=-1", "statement(2)=1", "save(2)=1", "number(2)=2", "look(2,1)=1", "look(2,2)=1",
            "look(2,3)=2", "look(2,4)=0", "look(2,5)=2", "commit(2)=1", "look(2,0)=-1", "look(2,1)=-1",
            "look(2,2)=-1", "look(2,3)=-1", "look(2,4)=-1", "look(2,5)=2", "look(2,6)=1");
        run("17 any session", "begin(0,0)=1", "number(0)=1", "commit(0)=1", "begin(0,0)=1", "number(0)=2",
            "look(-1,5)=2", "look(6,5)=2", "look(-2147483648,5)=2", "look(2147483647,6)=1", "look(-1,6)=1",
            "look(3,5)=2", "look(3,6)=1");
    }

    private static void noSuchSession() {
        for (int s : NO_SESSIONS) {
            run("no session " + s, "begin(" + s + ",0)=0", "begin(" + s + ",1)=0", "statement(" + s + ")=-1",
                "number(" + s + ")=-1", "save(" + s + ")=-1", "release(" + s + ",1)=0", "back(" + s + ",1)=0",
                "commit(" + s + ")=-1", "abort(" + s + ")=0", "sees(" + s + ",1,0,0,0)=0", "ending(" + s + ",1,0)=-1",
                "look(" + s + ",0)=-1", "look(" + s + ",4)=-1", "look(" + s + ",5)=0", "look(" + s + ",6)=0");
        }
    }

    /** The document frees answers behind 512 calls, so this holds the program, not the document, to its limit. */
    private static void allNumbersGiven() {
        SnapshotDesk x = new SnapshotDesk();
        x.begin(1, 0);
        x.number(1);
        for (int i = 0; i < 3997; i++) {
            x.begin(0, 0);
            x.number(0);
            x.abort(0);
        }
        String run = "4 not numbers enough";
        rows(run, x, "look(0,5)=3998", "begin(0,0)=1", "save(0)=1", "save(0)=2", "number(0)=-1", "look(0,5)=3998",
            "look(0,3)=0", "release(0,2)=1", "number(0)=4000", "state(3999)=1", "state(4000)=1", "root(4000)=3999",
            "state(4001)=0", "number(0)=4000", "save(0)=2", "number(0)=-1", "look(0,3)=0", "number(1)=1",
            "commit(0)=1", "place(4000)=1", "begin(0,0)=1", "number(0)=-1", "commit(0)=0", "look(0,5)=4000");
    }

    private static void run(String name, String... rows) {
        rows(name, new SnapshotDesk(), rows);
    }

    private static void rows(String name, SnapshotDesk x, String... rows) {
        for (String row : rows) {
            String[] parts = row.split("[(,)=]+");
            int[] a = new int[parts.length - 1];
            for (int i = 0; i < a.length; i++) {
                a[i] = Integer.parseInt(parts[i + 1]);
            }
            int want = a[a.length - 1];
            int got = call(x, parts[0], a);
            if (got != want) {
                fail("run " + name + ": " + row + " answered " + got);
            }
        }
    }

    private static int call(SnapshotDesk x, String method, int[] a) {
        switch (method) {
            case "begin": return bit(x.begin(a[0], a[1]));
            case "statement": return x.statement(a[0]);
            case "number": return x.number(a[0]);
            case "save": return x.save(a[0]);
            case "release": return bit(x.release(a[0], a[1]));
            case "back": return bit(x.back(a[0], a[1]));
            case "commit": return x.commit(a[0]);
            case "abort": return bit(x.abort(a[0]));
            case "crash": x.crash(); return 0;
            case "state": return x.state(a[0]);
            case "root": return x.root(a[0]);
            case "place": return x.place(a[0]);
            case "sees": return bit(x.sees(a[0], a[1], a[2], a[3], a[4]));
            case "ending": return x.ending(a[0], a[1], a[2]);
            case "dead": return bit(x.dead(a[0], a[1]));
            case "look": return x.look(a[0], a[1]);
            default: throw new IllegalArgumentException(method);
        }
    }

    private static int bit(boolean b) {
        return b ? 1 : 0;
    }

    private static void fail(String text) {
        wrong++;
        System.out.println(text);
    }
}
