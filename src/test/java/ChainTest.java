/** Promises 11 and 14: chain and hangs. */
public final class ChainTest {
    private static final int NONE = RowProver.NONE;

    public static void main(String[] args) {
        sources();
        throughTests();
        throughJoins();
        throughLoops();
        aheadFirst();
        wrongCalls();
        hangs();
        Bench.finish("ChainTest");
    }

    private static void chain(RowProver p, int check, boolean above, int... due) {
        String what = "chain(" + check + ", " + above + ", ";
        for (int k = 0; k < due.length; k++) {
            Bench.same(what + k + ")", p.chain(check, above, k), due[k]);
        }
        Bench.same(what + "behind)", p.chain(check, above, due.length), NONE);
        Bench.same(what + "far behind)", p.chain(check, above, Integer.MAX_VALUE), NONE);
        Bench.same(what + "-1)", p.chain(check, above, -1), NONE);
    }

    private static void sources() {
        RowProver p = Bench.told("array A 3; b = A[a]; c = 2; d = c - 1; e = A[d]; f = #A; f = f - 1; g = A[f]; h = in 0; A[h] = a; A[h] = a;");
        chain(p, 0, true, 0, 1001);
        chain(p, 0, false, 0, 1001);
        // check 8, b 9, c 10, d 11, check 12, e 13, f 14, f 15, check 16, g 17, h 18, check 19
        chain(p, 1, true, 11, 10, 1001);
        chain(p, 1, false, 11, 10, 1001);
        chain(p, 2, true, 15, 14, 1000);
        chain(p, 2, false, 15, 14, 1000);
        chain(p, 4, true, 19, 1000);
        chain(p, 4, false, 19, 1001);
    }

    private static void throughTests() {
        RowProver p = Bench.told("array A 3; a = in 0; b = in 1; if 0 <= a { if a < b { if b <= #A { if a < b { c = A[a]; } } } }");
        // a 8, b 9; a 10; a 11, b 12; b 13; a 14, b 15
        chain(p, 0, true, 14, 13, 1000);
        chain(p, 0, false, 14, 11, 10, 1001);
        RowProver q = Bench.told("array A 3; a = in 0; b = 1; if b <= a { if a = 2 { c = A[a]; } else { d = A[a]; } }");
        // a 8, b 9; b 10, a 11; a 12; check 13, c 14; a 15
        chain(q, 0, true, 12, 1001);
        chain(q, 0, false, 12, 1001);
        chain(q, 1, false, 15, 11, 9, 1001);
    }

    private static void throughJoins() {
        RowProver p = Bench.told("array A 4; if a < 1 { b = 2; c = 1; d = 1; } else { b = 1; c = 2; d = 1; } e = A[b]; e = A[c]; e = A[d];");
        // a 8; b 9, c 10, d 11; a 12; b 13, c 14, d 15; b 16, c 17, d 18
        chain(p, 0, true, 16, 9, 1001);
        chain(p, 0, false, 16, 13, 1001);
        chain(p, 1, true, 17, 14, 1001);
        chain(p, 1, false, 17, 10, 1001);
        chain(p, 2, true, 18, 11, 1001);
        chain(p, 2, false, 18, 11, 1001);
    }

    private static void throughLoops() {
        RowProver p = Bench.told("array A 4; while b < #A { c = A[b]; b = b + 1; }");
        // b 8, c 9; b 10; check 11; c 12; b 13
        chain(p, 0, true, 10, 1000);
        chain(p, 0, false, 10, 8, 1, 1001);
        RowProver q = Bench.told("array A 4; while b < 3 { b = b + 1; c = A[b]; }");
        // b 8, c 9; b 10; b 11; check 12, c 13
        chain(q, 0, true, 11, 10, 1001);
        chain(q, 0, false, 11, 10, 8, 1, 1001);
        RowProver r = Bench.told("array A 9; a = 3; while c < 2 { c = c + 1; if d < 5 { a = a + 0; } } e = A[a];");
        Bench.same("the joined one is shown", r.check(0, 4), 1);
        Bench.same("its chain begins", r.chain(0, true, 0), r.check(0, 2));
    }

    /** A number that comes from ahead and from what is told alike, comes from ahead. */
    private static void aheadFirst() {
        RowProver p = Bench.told("array A 4; a = 2; if a < 3 { b = A[a]; } c = A[a]; c = A[a];");
        // a 8; a 9; check 10, b 11; a 12; b 13; check 14
        chain(p, 0, true, 9, 8, 1001);
        chain(p, 0, false, 9, 8, 1001);
        RowProver q = Bench.told("array A 1; b = A[a]; c = A[a];");
        chain(q, 1, true, 8, 0, 1001);
        chain(q, 1, false, 8, 0, 1001);
    }

    private static void wrongCalls() {
        RowProver p = Bench.told("array A 3; a = in 0; b = A[a]; c = 5; d = A[c];");
        Bench.fails("above is not shown", IllegalStateException.class, () -> p.chain(0, true, 0));
        Bench.fails("below is not shown", IllegalStateException.class, () -> p.chain(0, false, -1));
        Bench.fails("above 5", IllegalStateException.class, () -> p.chain(1, true, 0));
        Bench.same("below 5", p.chain(1, false, 1), 1001);
        Bench.fails("check 2", IndexOutOfBoundsException.class, () -> p.chain(2, true, 0));
        Bench.fails("check -1", IndexOutOfBoundsException.class, () -> p.chain(-1, false, 0));
    }

    private static void hangs() {
        RowProver p = Bench.told("array A 3; array B 5; a = in 0; b = A[a]; c = A[a]; B[a] = a; d = a - 1; e = A[d]; f = 1; A[f] = a; A[f] = a;");
        Bench.same("the second's parts hang on the first", p.hangs(0), 2);
        Bench.same("nothing more hangs on the second", p.hangs(1), 0);
        Bench.same("nothing hangs on the third", p.hangs(2), 0);
        Bench.same("nothing hangs on the fourth", p.hangs(3), 0);
        Bench.same("nothing hangs on one shown by a number", p.hangs(4), 0);
        RowProver q = Bench.told("array A 3; a = in 0; b = A[a]; c = a - 1; d = a + 1; if 0 < d { e = A[d]; } A[c] = a; A[a] = a; A[a] = c;");
        // above of c, and both of the next of a; below of d is told by the test
        Bench.same("three parts hang on the first", q.hangs(0), 3);
        RowProver r = Bench.told("array A 0; while a < 9 { b = A[a]; c = A[a]; a = a + 1; d = A[b]; }");
        Bench.same("one behind in a loop", r.hangs(0), 1);
        Bench.fails("check 3", IndexOutOfBoundsException.class, () -> r.hangs(3));
        Bench.fails("check -1", IndexOutOfBoundsException.class, () -> r.hangs(-1));
        Bench.same("the bounds stay", r.check(1, 4), 1);
    }
}
