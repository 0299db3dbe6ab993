import java.util.NoSuchElementException;

/** Promises 15 to 20: length, input, run, out, place, was. */
public final class RunTest {
    private static final int NONE = RowProver.NONE;

    public static void main(String[] args) {
        lengths();
        inputs();
        plainRun();
        failing();
        asking();
        askingAhead();
        askingAheadAgain();
        askingAheadFails();
        steps();
        lastSteps();
        outs();
        places();
        was();
        wrongCalls();
        Bench.finish("RunTest");
    }

    private static void runs(RowProver p, int how, int... due) {
        for (int what = 0; what < due.length; what++) {
            Bench.same("run(" + how + ", " + what + ")", p.run(how, what), due[what]);
        }
    }

    private static void lengths() {
        RowProver p = Bench.told("array A 3; a = #A;");
        Bench.same("told first", p.length(0, 2), 0);
        Bench.same("as the text says", p.was(0, 8), 3);
        Bench.same("told next", p.length(0, 40), 2);
        Bench.same("as it is told", p.was(0, 8), 40);
        Bench.same("of a row not told", p.length(2, 0), 0);
        Bench.same("of another row", p.length(1, 5), 0);
        Bench.same("each for itself", p.length(1, 6), 5);
        Bench.fails("length 41", IllegalArgumentException.class, () -> p.length(0, 41));
        Bench.fails("length -1", IllegalArgumentException.class, () -> p.length(0, -1));
        Bench.fails("row 3", IndexOutOfBoundsException.class, () -> p.length(3, 1));
        Bench.fails("row -1", IndexOutOfBoundsException.class, () -> p.length(-1, 1));
        Bench.fails("neither", IndexOutOfBoundsException.class, () -> p.length(3, 41));
        Bench.same("nothing changed", p.length(0, 0), 40);
    }

    private static void inputs() {
        RowProver p = Bench.told("a = in 0; b = in 1; c = in 2;");
        Bench.same("at first", p.input(0, 99), 0);
        Bench.same("then", p.input(0, -99), 99);
        Bench.same("another", p.input(2, 4), 0);
        Bench.same("in 0", p.was(0, 8), -99);
        Bench.same("in 1", p.was(1, 9), 0);
        Bench.same("in 2", p.was(2, 10), 4);
        Bench.fails("input 3", IllegalArgumentException.class, () -> p.input(3, 0));
        Bench.fails("input -1", IllegalArgumentException.class, () -> p.input(-1, 0));
        Bench.fails("number 100", IllegalArgumentException.class, () -> p.input(0, 100));
        Bench.fails("number -100", IllegalArgumentException.class, () -> p.input(0, -100));
        Bench.same("nothing changed", p.input(0, 0), -99);
    }

    private static void plainRun() {
        RowProver p = Bench.told("array A 4; b = 0; while b < #A { c = A[b]; out c; b = b + 1; }");
        runs(p, 0, 0, NONE, 18, 4, 8, 0, 0);
        runs(p, 1, 0, NONE, 18, 4, 0, 0, 0);
        runs(p, 2, 0, NONE, 18, 4, 0, 0, 0);
        RowProver q = Bench.told("if a < 1 { a = 5; } else { a = 6; b = 1; } if a <= 4 { c = 1; } if a = 5 { d = 1; }");
        runs(q, 0, 0, NONE, 5, 0, 0, 0, 0);
        Bench.same("the first block", q.was(0, 9), 5);
        Bench.same("not the other one", q.was(0, 11), 0);
        Bench.same("joined", q.was(0, 13), 5);
    }

    private static void failing() {
        RowProver p = Bench.told("array A 3; a = in 0; out a; b = A[a]; out b;");
        p.input(0, 2);
        runs(p, 0, 0, NONE, 4, 2, 2, 0, 0);
        p.input(0, 3);
        runs(p, 0, 1, 2, 3, 1, 2, 0, 0);
        p.input(0, -1);
        runs(p, 0, 1, 2, 3, 1, 1, 0, 0);
        runs(p, 1, 1, 2, 3, 1, 1, 0, 0);
        p.length(0, 4);
        p.input(0, 3);
        runs(p, 0, 0, NONE, 4, 2, 2, 0, 0);
        RowProver q = Bench.told("array A 0; A[a] = b;");
        runs(q, 0, 1, 0, 1, 0, 2, 0, 0);
        runs(q, 1, 1, 0, 1, 0, 1, 0, 0);
        runs(q, 2, 1, 0, 1, 0, 1, 0, 0);
    }

    private static void asking() {
        RowProver p = Bench.told("array A 3; a = in 0; if a < 3 { b = A[a]; } else { b = A[a]; } b = A[a];");
        p.length(0, 9);
        p.input(0, 1);
        runs(p, 0, 0, NONE, 4, 0, 4, 0, 0);
        // above 3 is not needed in the first block; behind both nothing is known
        runs(p, 1, 0, NONE, 4, 0, 3, 0, 0);
        p.input(0, 5);
        runs(p, 0, 0, NONE, 4, 0, 4, 0, 0);
        runs(p, 1, 0, NONE, 4, 0, 3, 0, 0);
        p.input(0, -5);
        runs(p, 0, 1, 2, 3, 0, 1, 0, 0);
        runs(p, 1, 1, 2, 3, 0, 1, 0, 0);
    }

    private static void askingAhead() {
        RowProver p = Bench.told("array A 2; a = in 0; b = in 1; while 0 < b { c = A[a]; b = b - 1; } out b;");
        p.input(1, 5);
        p.input(0, 1);
        runs(p, 0, 0, NONE, 19, 1, 10, 0, 0);
        runs(p, 1, 0, NONE, 19, 1, 10, 0, 0);
        runs(p, 2, 0, NONE, 19, 1, 2, 1, 2);
        p.input(0, 2);
        runs(p, 0, 1, 3, 4, 0, 2, 0, 0);
        runs(p, 2, 1, 3, 4, 0, 4, 0, 2);
        p.input(0, -1);
        runs(p, 0, 1, 3, 4, 0, 1, 0, 0);
        runs(p, 2, 1, 3, 4, 0, 2, 0, 1);
        p.input(1, 0);
        runs(p, 0, 0, NONE, 4, 1, 0, 0, 0);
        runs(p, 2, 0, NONE, 4, 1, 1, 0, 1);
        RowProver q = Bench.told("array A 2; a = in 0; b = in 1; while a <= b { d = a - 1; c = A[d]; a = a + 2; }");
        q.length(0, 6);
        q.input(0, 1);
        q.input(1, 6);
        runs(q, 0, 0, NONE, 15, 0, 6, 0, 0);
        runs(q, 2, 0, NONE, 15, 0, 2, 1, 2);
        q.input(1, 7);
        runs(q, 0, 1, 4, 17, 0, 8, 0, 0);
        runs(q, 2, 1, 4, 17, 0, 10, 0, 2);
        q.input(1, 5);
        runs(q, 2, 0, NONE, 15, 0, 2, 1, 2);
        RowProver r = Bench.told("array A 2; while a < 3 { c = A[a]; a = a + 1; }");
        r.length(0, 3);
        runs(r, 0, 0, NONE, 10, 0, 6, 0, 0);
        runs(r, 1, 0, NONE, 10, 0, 3, 0, 0);
        runs(r, 2, 0, NONE, 10, 0, 1, 1, 1);
        r.length(0, 2);
        runs(r, 0, 1, 1, 8, 0, 6, 0, 0);
        runs(r, 1, 1, 1, 8, 0, 3, 0, 0);
        runs(r, 2, 1, 1, 8, 0, 4, 0, 1);
    }

    /** A loop within another one is come to again, and asked ahead of again. */
    private static void askingAheadAgain() {
        RowProver p = Bench.told("array A 2; while b < 3 { a = in 0; c = 0; while c < 2 { d = A[a]; c = c + 1; } b = b + 1; d = A[a]; }");
        p.input(0, 1);
        // the check behind the inner loop looks at a, which no loop guards
        runs(p, 0, 0, NONE, 1 + 3 * (3 + 6 + 3), 0, 18, 0, 0);
        runs(p, 2, 0, NONE, 37, 0, 12, 3, 6);
        // it goes unasked twice, but not when it is come to with 2
        RowProver q = Bench.told("array A 2; array B 3; while b < 3 { a = B[b]; c = 0; while c < 1 { d = A[a]; c = c + 1; } b = b + 1; }");
        runs(q, 0, 1, 4, 21, 0, 12, 0, 0);
        runs(q, 1, 1, 4, 21, 0, 6, 0, 0);
        runs(q, 2, 1, 4, 21, 0, 8, 2, 6);
    }

    /** What is asked ahead fails although the loop would not: it runs as it was. */
    private static void askingAheadFails() {
        RowProver p = Bench.told("array A 2; a = in 0; while b < 3 { if b = 9 { c = A[a]; } b = b + 1; } c = b;");
        p.input(0, 50);
        runs(p, 0, 0, NONE, 12, 0, 0, 0, 0);
        runs(p, 2, 0, NONE, 12, 0, 2, 0, 2);
        RowProver q = Bench.told("array A 2; a = in 0; e = in 1; while b < 2 { c = A[a]; c = A[e]; b = b + 1; }");
        q.input(0, -1);
        runs(q, 2, 1, 3, 4, 0, 2, 0, 1);
        q.input(0, 0);
        q.input(1, 2);
        runs(q, 2, 1, 4, 5, 0, 4 + 4, 0, 4);
        runs(q, 1, 1, 4, 5, 0, 4, 0, 0);
    }

    private static void steps() {
        RowProver p = Bench.told("while a < 1 { out b; b = b + 1; }");
        runs(p, 0, 2, NONE, 300, 100, 0, 0, 0);
        Bench.same("the last", p.out(0, 99), 99);
        RowProver q = Bench.told("while a < 99 { a = a + 1; b = a; } c = 1; d = 1; if 1 < 2 { }");
        // 99 rounds of three, the test that fails, and two more
        runs(q, 0, 2, NONE, 300, 0, 0, 0, 0);
        RowProver r = Bench.told("while a < 99 { a = a + 1; b = a; } c = 1; d = 1;");
        runs(r, 0, 0, NONE, 300, 0, 0, 0, 0);
        RowProver s = Bench.told("while 1 < 2 { }");
        runs(s, 2, 2, NONE, 300, 0, 0, 0, 0);
    }

    private static void outs() {
        RowProver p = Bench.told("a = -7; out a; a = a + 1; out a; out b;");
        for (int how = 0; how <= 2; how++) {
            int which = how;
            Bench.same("out 0", p.out(how, 0), -7);
            Bench.same("out 1", p.out(how, 1), -6);
            Bench.same("out 2", p.out(how, 2), 0);
            Bench.fails("out 3", NoSuchElementException.class, () -> p.out(which, 3));
            Bench.fails("out -1", NoSuchElementException.class, () -> p.out(which, -1));
        }
    }

    /** A loop that is come to behind the last step: its versions are made, and it is asked ahead of. */
    private static void lastSteps() {
        RowProver q = Bench.told("array A 2; a = in 0; while 1 < 2 { while b < 97 { b = b + 1; c = b; } d = 1; d = 2; d = 3;"
                + " while d < 9 { c = A[a]; d = d + 1; } }");
        // 1 + 1 + 3 * 97 + 1 + 3: three steps are left for the last loop
        runs(q, 0, 2, NONE, 300, 0, 2, 0, 0);
        runs(q, 2, 2, NONE, 300, 0, 2, 1, 2);
        RowProver r = Bench.told("array A 2; a = in 0; while b < 99 { b = b + 1; c = b; } d = 2;"
                + " while d < 9 { c = A[a]; d = d + 1; }");
        runs(r, 0, 2, NONE, 300, 0, 0, 0, 0);
        runs(r, 2, 2, NONE, 300, 0, 2, 1, 2);
        Bench.same("the round version of d", roundOf(r, 3), 2);
    }

    private static int roundOf(RowProver p, int variable) {
        for (int v = p.count(1) - 1; v >= 0; v--) {
            if (p.version(v, 1) == 6 && p.version(v, 0) == variable) {
                return p.was(2, v);
            }
        }
        return NONE;
    }

    private static void places() {
        RowProver p = Bench.told("array A 3; array C 1; a = 2; b = -9; A[a] = b; c = A[a]; out c; a = 0; C[a] = a; a = 1; d = A[a]; out d;");
        p.length(1, 5);
        p.length(2, 2);
        for (int how = 0; how <= 2; how++) {
            int which = how;
            Bench.same("place 0 of A", p.place(how, 0, 0), 0);
            Bench.same("place 1 of A", p.place(how, 0, 1), 1);
            Bench.same("place 2 of A", p.place(how, 0, 2), -9);
            Bench.same("place 0 of C", p.place(how, 2, 0), 0);
            Bench.same("place 1 of C", p.place(how, 2, 1), 1);
            Bench.same("out 0", p.out(how, 0), -9);
            Bench.same("out 1", p.out(how, 1), 1);
            Bench.fails("place 3 of A", NoSuchElementException.class, () -> p.place(which, 0, 3));
            Bench.fails("place -1 of A", NoSuchElementException.class, () -> p.place(which, 0, -1));
            Bench.fails("row B", NoSuchElementException.class, () -> p.place(which, 1, 0));
        }
        p.length(0, 40);
        Bench.same("the last place", p.place(0, 0, 39), 39);
        Bench.fails("behind the last place", NoSuchElementException.class, () -> p.place(0, 0, 40));
        RowProver q = Bench.told("array A 2; b = 7; A[a] = b; a = 5; A[a] = b;");
        Bench.same("what was put ahead of the failure", q.place(0, 0, 0), 7);
        Bench.same("another run begins anew", q.place(1, 0, 1), 1);
    }

    private static void was() {
        RowProver p = Bench.told("array A 4; a = in 0; while b < 3 { c = A[b]; b = b + 1; } if a < 2 { d = 5; } else { d = 6; e = A[a]; } f = 1;");
        // a 8; b 9, c 10; b 11; check 12, c 13, b 14; b 15; a 16, d 17; a 18, d 19, check 20, e 21; d 22, e 23; f 24
        int[] small = {0, 3, 2, 2, 2, 2, 3, 3, 0, 5, 0, 0, 0, 0, 5, 0, 1};
        int[] great = {7, 3, 2, 2, 2, 2, 3, 3, 0, 0, 7, 6, 0, 0, 0, 0, 0};
        for (int how = 0; how <= 2; how++) {
            p.input(0, 0);
            for (int i = 0; i < small.length; i++) {
                Bench.same("was(" + how + ", " + (8 + i) + ")", p.was(how, 8 + i), small[i]);
            }
            p.input(0, 7);
            for (int i = 0; i < great.length; i++) {
                Bench.same("was(" + how + ", " + (8 + i) + ") failing", p.was(how, 8 + i), great[i]);
            }
            Bench.same("a first one", p.was(how, 3), 0);
        }
    }

    private static void wrongCalls() {
        RowProver p = Bench.told("array A 1; out a;");
        Bench.fails("run how 3", IllegalArgumentException.class, () -> p.run(3, 0));
        Bench.fails("run how -1", IllegalArgumentException.class, () -> p.run(-1, 0));
        Bench.fails("run what 7", NoSuchElementException.class, () -> p.run(0, 7));
        Bench.fails("run what -1", NoSuchElementException.class, () -> p.run(2, -1));
        Bench.fails("run neither", IllegalArgumentException.class, () -> p.run(3, 7));
        Bench.fails("out how 3", IllegalArgumentException.class, () -> p.out(3, 0));
        Bench.fails("out neither", IllegalArgumentException.class, () -> p.out(-1, 5));
        Bench.fails("place row 3", IndexOutOfBoundsException.class, () -> p.place(0, 3, 0));
        Bench.fails("place row -1", IndexOutOfBoundsException.class, () -> p.place(0, -1, 0));
        Bench.fails("place how 3", IllegalArgumentException.class, () -> p.place(3, 0, 0));
        Bench.fails("place row and how", IndexOutOfBoundsException.class, () -> p.place(3, 3, 0));
        Bench.fails("place how and place", IllegalArgumentException.class, () -> p.place(-1, 0, 9));
        Bench.fails("place how and row not told", IllegalArgumentException.class, () -> p.place(3, 1, 0));
        Bench.fails("was version 8", IndexOutOfBoundsException.class, () -> p.was(0, 8));
        Bench.fails("was version -1", IndexOutOfBoundsException.class, () -> p.was(0, -1));
        Bench.fails("was how 3", IllegalArgumentException.class, () -> p.was(3, 0));
        Bench.fails("was neither", IndexOutOfBoundsException.class, () -> p.was(3, 8));
    }
}
