/** Promises 8 and 9: above and below. */
public final class BoundTest {
    private static final int FAR = RowProver.FAR;

    public static void main(String[] args) {
        beginning();
        values();
        checks();
        less();
        lessOrSame();
        same();
        joined();
        loopsUp();
        loopsDown();
        loopsTogether();
        wrongCalls();
        Bench.finish("BoundTest");
    }

    private static void above(RowProver p, int row, int first, int... due) {
        for (int i = 0; i < due.length; i++) {
            Bench.same("above(" + row + ", " + (first + i) + ")", p.above(row, first + i), due[i]);
        }
    }

    private static void below(RowProver p, int first, int... due) {
        for (int i = 0; i < due.length; i++) {
            Bench.same("below(" + (first + i) + ")", p.below(first + i), due[i]);
        }
    }

    private static void beginning() {
        RowProver p = Bench.told("array A 3; array C 0;");
        above(p, 0, 0, -3, -3, -3, -3, -3, -3, -3, -3);
        above(p, 2, 0, 0, 0, 0, 0, 0, 0, 0, 0);
        below(p, 0, 0, 0, 0, 0, 0, 0, 0, 0);
    }

    private static void values() {
        RowProver p = Bench.told("array A 3; array B 5; a = 7; b = a + 2; c = b - 20; d = #A; e = d - 1; f = in 0;"
                + " g = f + 1; h = -99; a = #B; b = d;");
        above(p, 0, 8, 4, 6, -14, 0, -1, FAR, FAR, -102, FAR, 0);
        above(p, 1, 8, 2, 4, -16, FAR, FAR, FAR, FAR, -104, 0, FAR);
        below(p, 8, 7, 9, -11, 3, 2, FAR, FAR, -99, 5, 3);
    }

    private static void checks() {
        RowProver p = Bench.told("array A 3; array B 5; a = in 0; b = A[a]; c = a; B[a] = b; d = a; e = 1; A[e] = a; f = #B; g = A[f];");
        // a, behind A[a], b, c, behind B[a], d, e, behind A[e], f, behind A[f], g
        above(p, 0, 8, FAR, -1, FAR, -1, -1, -1, -2, -2, FAR, -1, FAR);
        above(p, 1, 8, FAR, FAR, FAR, FAR, -1, -1, -4, -4, 0, 0, FAR);
        below(p, 8, FAR, 0, FAR, 0, 0, 0, 1, 1, 5, 5, FAR);
    }

    private static void less() {
        RowProver p = Bench.told("array A 3; a = in 0; b = in 1; if a < #A { if 2 < a { } } if a < b { } if b < 9 { if a < b { } }");
        // a, b; if a<#A: 10; if 2<a: 11 (12 not); not a<#A: 13
        above(p, 0, 8, FAR, FAR, -1, -1, -1, FAR);
        below(p, 8, FAR, FAR, FAR, 3, FAR, 3);
        // not 2 < a: a is 2 at most, which tells -1 beside the -1 that is known
        RowProver q = Bench.told("array A 3; a = in 0; if 2 < a { } else { } if a < 1 { }");
        above(q, 0, 9, FAR, -1, -3, FAR);
        below(q, 9, 3, FAR, FAR, 1);
        // a<b: 14, 15, not: 16, 17; b<9: 18; a<b: 19, 20, not: 21, 22; not b<9: 23
        above(p, 0, 14, FAR, FAR, FAR, FAR, 5, 4, 5, FAR, 5, FAR);
        below(p, 14, FAR, FAR, FAR, FAR, FAR, FAR, FAR, FAR, FAR, 9);
        RowProver r = Bench.told("array A 3; a = 4; b = 7; if a < b { } if b < a { }");
        // a<b: a 10, b 11; not: a 12, b 13; b<a: b 14, a 15; not: b 16, a 17
        above(r, 0, 10, 1, 4, 1, 1, 0, 1, 4, 1);
        below(r, 10, 4, 7, 7, 7, 7, 8, 7, 4);
    }

    private static void lessOrSame() {
        RowProver p = Bench.told("array A 3; a = in 0; b = 7; if a <= b { } if b <= a { } if a <= #A { } if #A <= a { }");
        // a<=b: a 10, b 11; not: a 12, b 13
        above(p, 0, 10, 4, 4, FAR, 4);
        below(p, 10, FAR, 7, 8, 7);
        // b<=a: b 14, a 15; not: b 16, a 17
        above(p, 0, 14, 4, FAR, 4, 3);
        below(p, 14, 7, 7, 7, FAR);
        // a<=#A: 18, not 19; #A<=a: 20, not 21
        above(p, 0, 18, 0, FAR, FAR, -1);
        below(p, 18, FAR, 4, 3, FAR);
    }

    private static void same() {
        RowProver p = Bench.told("array A 3; array B 5; a = in 0; if a = 2 { } if #A = a { } b = 4; if a = b { } if a = a { }");
        above(p, 0, 9, -1, FAR, 0, FAR, 1, 1, 1, FAR, 1);
        above(p, 1, 9, -3, FAR, FAR, FAR, -1, -1, -1, FAR, -1);
        below(p, 9, 2, FAR, 3, FAR, 4, 4, 4, FAR, 4);
        Bench.same("versions", p.count(1), 18);
    }

    private static void joined() {
        RowProver p = Bench.told("array A 3; if a < 5 { b = 1; c = 9; d = in 0; } else { b = 8; c = #A; } e = b; f = c; g = d;");
        // a 8; b 9, c 10, d 11; a 12; b 13, c 14; b 15, c 16, d 17; e 18, f 19, g 20
        above(p, 0, 15, 5, 6, FAR, 5, 6, FAR);
        below(p, 15, 1, 3, FAR, 1, 3, FAR);
    }

    private static void loopsUp() {
        RowProver p = Bench.told("array A 4; while b < #A { c = A[b]; b = b + 1; }");
        // b 8, c 9; b 10; check 11, c 12, b 13; b 14
        above(p, 0, 8, 0, FAR, -1, -1, FAR, 0, 0);
        below(p, 8, 0, FAR, 0, 0, FAR, 1, 4);
        RowProver q = Bench.told("array A 4; while c < 3 { b = b + 1; }");
        // b 8; c 9; b 10; c 11
        above(q, 0, 8, FAR, -4, FAR, -4);
        below(q, 8, 0, 0, 1, 3);
        RowProver r = Bench.told("array A 20; while a < 99 { a = a + 7; }");
        // a stays below 99 where it is told anew: 98 + 7
        above(r, 0, 8, 85, 78, 85, 85);
        below(r, 8, 0, 0, 7, 99);
        RowProver s = Bench.told("array A 4; while a < b { a = a + 1; }");
        above(s, 0, 8, -4, -5, -4, -4, -4, -4);
    }

    private static void loopsDown() {
        RowProver p = Bench.told("array A 4; a = #A; while 0 < a { a = a - 1; b = A[a]; }");
        // a 8; a 9, b 10; a 11; a 12; check 13, b 14; a 15
        above(p, 0, 8, 0, 0, FAR, 0, -1, -1, FAR, -4);
        below(p, 8, 4, 0, FAR, 1, 0, 0, FAR, 0);
        RowProver q = Bench.told("array A 4; a = 50; while b < 3 { a = a - 1; b = b + 1; }");
        // a 8; a 9, b 10; b 11; a 12; b 13; b 14
        above(q, 0, 8, 46, 46, -1, -2, 45, -1, -1);
        below(q, 8, 50, FAR, 0, 0, FAR, 1, 3);
        RowProver r = Bench.told("a = 90; while b <= a { a = a - 3; }");
        // a 8; a 9; b 10, a 11; a 12; b 13, a 14
        below(r, 8, 90, -3, 0, 0, -3, 0, -3);
    }

    /** One loop's bound hangs on another variable that goes round with it. */
    private static void loopsTogether() {
        RowProver p = Bench.told("array A 2; b = #A; while a < b { a = a + 1; b = b - 1; } c = a; d = b;");
        // b 8; a 9, b 10; a 11, b 12; a 13, b 14; a 15, b 16; c 17, d 18
        above(p, 0, 8, 0, 0, 0, -1, 0, 0, -1, 0, 0, 0, 0);
        below(p, 8, 2, 0, 0, 0, 1, 1, 0, 0, 0, 0, 0);
        RowProver q = Bench.told("array A 9; while a < 5 { b = 0; while b < a { b = b + 1; c = A[b]; } a = a + 1; }");
        Bench.same("above is shown", q.check(0, 4), 1);
        Bench.same("below is shown", q.check(0, 3), 1);
        Bench.same("the place's bound", q.above(0, q.check(0, 2)), 4 - 9);
        Bench.same("the place's bound below", q.below(q.check(0, 2)), 1);
        RowProver r = Bench.told("while a < 1 { b = b + 99; c = b - 98; b = c - 1; a = a + 1; }");
        below(r, 9, 0);
        RowProver s = Bench.told("array A 1; while a < 1 { b = b + 99; c = b - 98; b = c; }");
        Bench.same("one more each time", s.above(0, 8), FAR);
        Bench.same("never less", s.below(8), 0);
    }

    private static void wrongCalls() {
        RowProver p = Bench.told("array B 1; a = 1;");
        Bench.fails("row 3", IndexOutOfBoundsException.class, () -> p.above(3, 0));
        Bench.fails("row -1", IndexOutOfBoundsException.class, () -> p.above(-1, 0));
        Bench.fails("version 9", IndexOutOfBoundsException.class, () -> p.above(1, 9));
        Bench.fails("version -1", IndexOutOfBoundsException.class, () -> p.above(1, -1));
        Bench.fails("row A not told", IllegalStateException.class, () -> p.above(0, 8));
        Bench.fails("row C not told", IllegalStateException.class, () -> p.above(2, 8));
        Bench.fails("neither row nor version", IndexOutOfBoundsException.class, () -> p.above(0, 9));
        Bench.fails("below version 9", IndexOutOfBoundsException.class, () -> p.below(9));
        Bench.fails("below version -1", IndexOutOfBoundsException.class, () -> p.below(-1));
    }
}
