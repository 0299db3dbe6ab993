/** Promises 1 to 5: a new object, feed, end, read, fault. */
public final class TapeTest {
    private static final int SPACES = 0x20202020;

    public static void main(String[] args) {
        newObject();
        feed();
        byteOrder();
        end();
        read();
        fault();
        readmeExample();
        Bench.finish("TapeTest");
    }

    private static void newObject() {
        RowProver p = new RowProver();
        Bench.same("fault of a new object", p.fault(), RowProver.NONE);
        Bench.same("statements of a new object", p.count(0), 0);
        Bench.same("versions of a new object", p.count(1), 8);
        Bench.same("rows of a new object", p.count(7), 0);
        Bench.same("end(0) on an empty tape", p.end(0), true);
        Bench.same("end(1) on an empty tape", p.end(1), false);
        for (int how = 0; how <= 2; how++) {
            Bench.same("a new object's run ends", p.run(how, 0), 0);
            Bench.same("a new object's run has steps", p.run(how, 2), 0);
        }
        Bench.same("NONE", RowProver.NONE, -1);
        Bench.same("FAR", RowProver.FAR, 99999);
        Bench.same("read of an empty tape", p.read(), 0);
    }

    private static void feed() {
        RowProver p = new RowProver();
        for (int i = 1; i <= 20; i++) {
            Bench.same("feed " + i, p.feed(SPACES, SPACES, SPACES, SPACES, SPACES), 20 * i);
        }
        Bench.same("feed beyond 400", p.feed(0, 0, 0, 0, 0), RowProver.NONE);
        Bench.same("the tape keeps 400", p.end(400), true);
        Bench.same("400 blanks are a program", p.read(), 0);
        Bench.same("the tape is used up", p.feed(0, 0, 0, 0, 0), 20);
        RowProver q = new RowProver();
        for (int i = 1; i <= 20; i++) {
            q.feed(SPACES, SPACES, SPACES, SPACES, SPACES);
        }
        q.end(381);
        Bench.same("feed to 401", q.feed(0, 0, 0, 0, 0), RowProver.NONE);
        q.end(380);
        Bench.same("feed to 400", q.feed(0, 0, 0, 0, 0), 400);
    }

    private static void byteOrder() {
        RowProver p = new RowProver();
        // "out " "a;ou" "t b;" "out " "c; ?"
        p.feed(0x6f757420, 0x613b6f75, 0x7420623b, 0x6f757420, 0x633b20ff);
        Bench.fails("a byte 255", IllegalArgumentException.class, p::read);
        Bench.same("its fault", p.fault(), 19);
        p.feed(0x6f757420, 0x613b6f75, 0x7420623b, 0x6f757420, 0x633b20ff);
        p.end(19);
        Bench.same("three outs", p.read(), 3);
        Bench.same("the first is of a", p.statement(0, 1), 0);
        Bench.same("the second is of b", p.statement(1, 1), 1);
        Bench.same("the third is of c", p.statement(2, 1), 2);
    }

    private static void end() {
        RowProver p = new RowProver();
        p.feed(SPACES, SPACES, SPACES, SPACES, SPACES);
        Bench.same("end below 0", p.end(-1), false);
        Bench.same("end behind the tape", p.end(21), false);
        Bench.same("end far behind the tape", p.end(Integer.MAX_VALUE), false);
        Bench.same("end far below 0", p.end(Integer.MIN_VALUE), false);
        Bench.same("end at all of it", p.end(20), true);
        Bench.same("end at some of it", p.end(7), true);
        Bench.same("more comes behind", p.feed(SPACES, SPACES, SPACES, SPACES, SPACES), 27);
        Bench.same("end at nought", p.end(0), true);
        Bench.same("end at one now", p.end(1), false);
    }

    private static void read() {
        RowProver p = Bench.told("a = 1; b = 2;");
        Bench.same("statements", p.count(0), 2);
        Bench.tape(p, "array A 3; out a;;");
        Bench.fails("a wrong text", IllegalArgumentException.class, p::read);
        Bench.same("its fault", p.fault(), 17);
        Bench.same("the program stays", p.count(0), 2);
        Bench.same("its versions stay", p.count(1), 10);
        Bench.same("no rows of the wrong text", p.count(7), 0);
        Bench.same("the tape was used up", p.end(1), false);
        Bench.same("an empty program", p.read(), 0);
        Bench.same("versions of the empty program", p.count(1), 8);
        Bench.same("no fault", p.fault(), RowProver.NONE);
        p.input(1, 7);
        p.length(2, 9);
        Bench.tape(p, "array C 1; a = in 1; b = #C;");
        Bench.same("another program", p.read(), 2);
        Bench.same("the input stays", p.was(0, 8), 7);
        Bench.same("the length stays", p.was(0, 9), 9);
    }

    private static void fault() {
        RowProver p = new RowProver();
        Bench.same("no fault ahead of any read", p.fault(), RowProver.NONE);
        Bench.tape(p, "a = ");
        Bench.same("feeding is no reading", p.fault(), RowProver.NONE);
        Bench.fails("more must come", IllegalArgumentException.class, p::read);
        Bench.same("at the text's length", p.fault(), 4);
        Bench.same("the fault stays", p.fault(), 4);
        Bench.same("the next read", p.read(), 0);
        Bench.same("no fault then", p.fault(), RowProver.NONE);
    }

    /** What README.md tells. */
    private static void readmeExample() {
        RowProver p = new RowProver();
        p.feed(0x61727261, 0x79204120, 0x313b613d, 0x23413b77, 0x68696c65);
        p.feed(0x20623c61, 0x7b633d41, 0x5b625d3b, 0x623d622b, 0x313b7d20);
        p.end(39);
        Bench.same("read", p.read(), 4);
        Bench.same("below is shown", p.check(0, 3), 1);
        Bench.same("above is shown", p.check(0, 4), 1);
        p.length(0, 5);
        Bench.same("all parts asked", p.run(0, 4), 10);
        Bench.same("parts asked that are not shown", p.run(1, 4), 0);
    }
}
