import java.util.NoSuchElementException;

/** Promises 10 and 12: check and stands. */
public final class CheckTest {
    private static final int NONE = RowProver.NONE;

    public static void main(String[] args) {
        plainChecks();
        fixed();
        counted();
        notCounted();
        outermost();
        stands();
        wrongCalls();
        Bench.finish("CheckTest");
    }

    private static void same(RowProver p, int check, int... due) {
        for (int what = 0; what < due.length; what++) {
            Bench.same("check(" + check + ", " + what + ")", p.check(check, what), due[what]);
        }
    }

    private static void plainChecks() {
        RowProver p = Bench.told("array A 3; array B 5; a = in 0; b = A[a]; c = A[a]; B[a] = b; d = a + 1; e = A[d]; d = 2; A[d] = d;");
        same(p, 0, 1, 0, 8, 0, 0, NONE, NONE, 8, 0);
        same(p, 1, 2, 0, 9, 1, 1, NONE, NONE, 8, 0);
        same(p, 2, 3, 1, 11, 1, 0, NONE, NONE, 8, 0);
        same(p, 3, 5, 0, 14, 1, 0, NONE, NONE, 8, 1);
        same(p, 4, 7, 0, 17, 1, 1, NONE, NONE, 17, 0);
        RowProver edge = Bench.told("array A 3; a = 2; b = A[a]; c = 3; d = A[c]; e = -1; f = A[e];");
        same(edge, 0, 1, 0, 8, 1, 1);
        same(edge, 1, 3, 0, 11, 1, 0);
        same(edge, 2, 5, 0, 14, 0, 1);
    }

    private static void fixed() {
        RowProver p = Bench.told("array A 2; a = in 0; b = in 1; while 0 < b { d = a - 2; c = A[d]; b = b - 1; }");
        // a 8, b 9; rounds b 10, c 11, d 12; b 13; d 14
        same(p, 0, 4, 0, 14, 0, 0, 0, 0, 8, -2);
        RowProver shown = Bench.told("array A 2; a = 1; while 0 < b { c = A[a]; }");
        same(shown, 0, 2, 0, 8, 1, 1, NONE, NONE, 8, 0);
        RowProver half = Bench.told("array A 2; a = in 0; if 0 < a { while 0 < b { c = A[a]; } }");
        same(half, 0, 3, 0, 9, 1, 0, 0, 0, 8, 0);
        RowProver inside = Bench.told("array A 2; while 0 < b { a = in 0; c = A[a]; }");
        same(inside, 0, 2, 0, 11, 0, 0, NONE, NONE, 11, 0);
        RowProver early = Bench.told("array A 2; while a < 5 { c = A[b]; }");
        same(early, 0, 1, 0, 1, 1, 1, NONE, NONE, 1, 0);
    }

    private static void counted() {
        RowProver p = Bench.told("array A 2; a = in 0; b = in 1; while a < b { c = a + 1; d = A[c]; a = c + 1; }");
        // a 8, b 9; rounds a 10, c 11, d 12; a 13, b 14; c 15
        same(p, 0, 4, 0, 15, 0, 0, 0, 1, 10, 1);
        RowProver number = Bench.told("array A 2; a = in 0; while a <= 9 { d = A[a]; a = a + 0; }");
        same(number, 0, 2, 0, 11, 0, 0, 0, 1, 9, 0);
        RowProver row = Bench.told("array A 2; array B 1; while a < #B { d = A[a]; a = a + 1; }");
        same(row, 0, 1, 0, 10, 1, 0, 0, 1, 8, 0);
        RowProver copy = Bench.told("array A 2; a = in 0; while a < 9 { b = a; d = A[b]; a = b; }");
        Bench.same("a copy is the same and 0", copy.check(0, 6), 1);
    }

    private static void notCounted() {
        notGuarded("the right side goes round", "while a < b { d = A[a]; a = a + 1; b = b + 0; }");
        notGuarded("it goes down", "while a < 9 { d = A[a]; a = a - 1; }");
        notGuarded("it is told otherwise", "while a < 9 { d = A[a]; a = in 0; }");
        notGuarded("it is joined", "while a < 9 { d = A[a]; if d < 3 { a = a + 1; } }");
        notGuarded("it is the right side", "while b < a { d = A[a]; a = a + 1; }");
        notGuarded("the test is =", "while a = b { d = A[a]; a = a + 1; }");
        notGuarded("both sides are it", "while a <= a { d = A[a]; a = a + 1; }");
        notGuarded("the left side is another one", "while c < 9 { d = A[a]; a = a + 1; c = c + 1; }");
        notGuarded("no side is it", "while #A < 9 { d = A[a]; a = a + 1; }");
    }

    private static void notGuarded(String why, String loop) {
        RowProver p = Bench.told("array A 2; a = in 0; b = in 1; " + loop);
        Bench.same(why, p.check(0, 5), NONE);
        Bench.same(why + ": how", p.check(0, 6), NONE);
        Bench.same(why + ": what it is", p.check(0, 7) >= 0, true);
        Bench.same(why + ": guarded", p.count(6), 0);
    }

    private static void outermost() {
        RowProver p = Bench.told("array A 2; a = in 0; while b < 9 { while c < 9 { d = A[a]; c = c + 1; } b = b + 1; }");
        Bench.same("the outer loop guards", p.check(0, 5), 0);
        Bench.same("as fixed", p.check(0, 6), 0);
        RowProver q = Bench.told("array A 2; a = in 0; while a < b { while c < 9 { d = A[a]; c = c + 1; } a = a + 1; }");
        Bench.same("the outer loop counts", q.check(0, 5), 0);
        Bench.same("as counted", q.check(0, 6), 1);
        RowProver r = Bench.told("array A 2; while b < 9 { a = in 0; while c < 9 { d = A[a]; c = c + 1; } b = b + 1; }");
        Bench.same("the inner loop guards", r.check(0, 5), 1);
        Bench.same("as fixed there", r.check(0, 6), 0);
        RowProver s = Bench.told("array A 2; while b < 9 { c = in 0; while c < b { d = A[c]; c = c + 1; } b = b + 1; }");
        Bench.same("the inner loop counts", s.check(0, 5), 1);
        Bench.same("as counted there", s.check(0, 6), 1);
        RowProver t = Bench.told("array A 2; a = in 0; while b < 9 { if b < 3 { while c < 9 { if c < 4 { d = A[a]; } } } b = b + 1; }");
        Bench.same("through ifs", t.check(0, 5), 0);
    }

    private static void stands() {
        RowProver p = Bench.told("array A 3; a = in 0; b = a + 5; c = b - 7; d = c; e = A[d]; if d < 2 { f = d; } else { g = d + 1; } f = f + 1; e = e; h = #A; h = h - 1; h = 4;");
        // a 8, b 9, c 10, d 11, check 12, e 13; d 14, f 15; d 16, g 17; joined f 18, g 19; f 20; e 21; h 22, 23, 24
        int[] roots = {8, 8, 8, 8, 8, 13, 8, 8, 8, 8, 18, 19, 18, 13, 22, 22, 24};
        int[] shifts = {0, 5, -2, -2, -2, 0, -2, -2, -2, -1, 0, 0, 1, 0, 0, -1, 0};
        for (int i = 0; i < roots.length; i++) {
            Bench.same("stands(" + (8 + i) + ", false)", p.stands(8 + i, false), roots[i]);
            Bench.same("stands(" + (8 + i) + ", true)", p.stands(8 + i, true), shifts[i]);
        }
        Bench.same("stands(3, false)", p.stands(3, false), 3);
        Bench.same("stands(3, true)", p.stands(3, true), 0);
        RowProver round = Bench.told("while a < 9 { a = a + 2; } b = a;");
        Bench.same("a round one stands for itself", round.stands(8, false), 8);
        Bench.same("its end stands for it", round.stands(10, false), 8);
        Bench.same("and 2", round.stands(10, true), 2);
        Bench.same("behind the loop it stands for it", round.stands(12, false), 8);
        Bench.fails("version -1", IndexOutOfBoundsException.class, () -> round.stands(-1, false));
        Bench.fails("version 13", IndexOutOfBoundsException.class, () -> round.stands(13, true));
    }

    private static void wrongCalls() {
        RowProver p = Bench.told("array A 3; b = A[a];");
        Bench.fails("check 1", IndexOutOfBoundsException.class, () -> p.check(1, 0));
        Bench.fails("check -1", IndexOutOfBoundsException.class, () -> p.check(-1, 0));
        Bench.fails("what 9", NoSuchElementException.class, () -> p.check(0, 9));
        Bench.fails("what -1", NoSuchElementException.class, () -> p.check(0, -1));
        Bench.fails("neither", IndexOutOfBoundsException.class, () -> p.check(1, 9));
    }
}
