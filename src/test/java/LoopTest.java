import java.util.NoSuchElementException;

/** Promises 13 and 22: loop and count. */
public final class LoopTest {
    private static final int NONE = RowProver.NONE;

    public static void main(String[] args) {
        loops();
        wrongCalls();
        counts();
        Bench.finish("LoopTest");
    }

    private static void same(RowProver p, int loop, int... due) {
        for (int what = 0; what < due.length; what++) {
            Bench.same("loop(" + loop + ", " + what + ")", p.loop(loop, what), due[what]);
        }
    }

    private static void loops() {
        RowProver p = Bench.told("array A 2; a = in 0; b = in 1; while c < b { d = A[a]; d = A[c]; while 0 < e { e = e - 1; d = A[a];"
                + " f = in 2; while g < 9 { A[f] = a; A[g] = a; g = g + 1; } } c = c + 1; } while 0 < 0 { }");
        // the first A[a] is not shown, the second is; A[c] is shown below, A[g] too
        same(p, 0, 2, NONE, 2, 5, 3);
        same(p, 1, 5, 0, 0, 4, 0);
        same(p, 2, 9, 1, 2, 1, 3);
        same(p, 3, 14, NONE, 0, 0, 0);
        RowProver q = Bench.told("array A 2; if a < 1 { a = in 0; while b < 3 { if b < 2 { while b < 4 { c = A[a]; b = b + 1; } } c = A[a]; } }");
        same(q, 0, 2, NONE, 2, 2, 4);
        same(q, 1, 4, 0, 0, 2, 0);
    }

    private static void wrongCalls() {
        RowProver p = Bench.told("while a < 9 { }");
        Bench.fails("loop 1", IndexOutOfBoundsException.class, () -> p.loop(1, 0));
        Bench.fails("loop -1", IndexOutOfBoundsException.class, () -> p.loop(-1, 0));
        Bench.fails("what 5", NoSuchElementException.class, () -> p.loop(0, 5));
        Bench.fails("what -1", NoSuchElementException.class, () -> p.loop(0, -1));
        Bench.fails("neither", IndexOutOfBoundsException.class, () -> p.loop(1, 5));
    }

    private static void counts() {
        RowProver p = Bench.told("array C 7; array A 0; a = in 0; b = C[a]; b = C[a]; b = A[a]; while c < 9 { b = A[c]; while b < 3 { } }");
        // a 8; check, b three times; rounds b, c? c is not told anew, so b 15; c; check 17, b 18; b; b; c
        int[] due = {7, 22, 4, 2, 4, 1, 1, 5, 0, NONE, 7};
        for (int what = 0; what < due.length; what++) {
            Bench.same("count(" + what + ")", p.count(what), due[what]);
        }
        Bench.same("count(-1)", p.count(-1), NONE);
        Bench.same("count(11)", p.count(11), NONE);
        Bench.same("count far", p.count(Integer.MIN_VALUE), NONE);
        RowProver empty = new RowProver();
        int[] none = {0, 8, 0, 0, 0, 0, 0, 0, NONE, NONE, NONE};
        for (int what = 0; what < none.length; what++) {
            Bench.same("count(" + what + ") of no program", empty.count(what), none[what]);
        }
        RowProver rows = Bench.told("array B 20;");
        Bench.same("rows as bits", rows.count(7), 2);
        Bench.same("places of B", rows.count(9), 20);
    }
}
