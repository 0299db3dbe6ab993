import java.util.NoSuchElementException;

/** Promise 7: version. */
public final class VersionTest {
    private static final int NONE = RowProver.NONE;

    public static void main(String[] args) {
        beginning();
        values();
        checks();
        branches();
        loops();
        nested();
        most();
        wrongCalls();
        Bench.finish("VersionTest");
    }

    private static void same(RowProver p, int version, int... due) {
        for (int what = 0; what < due.length; what++) {
            Bench.same("version(" + version + ", " + what + ")", p.version(version, what), due[what]);
        }
    }

    private static void beginning() {
        RowProver p = new RowProver();
        for (int v = 0; v < 8; v++) {
            same(p, v, v, 0, NONE, NONE, NONE);
        }
        Bench.same("versions", p.count(1), 8);
    }

    private static void values() {
        RowProver p = Bench.told("array A 1; a = 5; b = a; c = b - 2; d = #A; e = in 1; a = a + 1; out a;");
        same(p, 8, 0, 1, 0, NONE, NONE);
        same(p, 9, 1, 1, 1, 8, NONE);
        same(p, 10, 2, 1, 2, 9, NONE);
        same(p, 11, 3, 1, 3, NONE, NONE);
        same(p, 12, 4, 1, 4, NONE, NONE);
        same(p, 13, 0, 1, 5, 8, NONE);
        Bench.same("versions", p.count(1), 14);
    }

    private static void checks() {
        RowProver p = Bench.told("array A 1; a = A[b]; b = A[b]; A[c] = c; A[c] = d; e = c;");
        same(p, 8, 1, 2, 0, 1, NONE);
        same(p, 9, 0, 1, 0, NONE, NONE);
        same(p, 10, 1, 2, 1, 8, NONE);
        same(p, 11, 1, 1, 1, NONE, NONE);
        same(p, 12, 2, 2, 2, 2, NONE);
        same(p, 13, 2, 2, 3, 12, NONE);
        same(p, 14, 4, 1, 4, 13, NONE);
        Bench.same("versions", p.count(1), 15);
    }

    private static void branches() {
        RowProver p = Bench.told("array A 1; if b < a { d = b; c = A[a]; } else { d = a; h = 1; } e = a; f = d; out h;");
        same(p, 8, 1, 3, 0, 1, NONE);
        same(p, 9, 0, 3, 0, 0, NONE);
        same(p, 10, 3, 1, 1, 8, NONE);
        same(p, 11, 0, 2, 2, 9, NONE);
        same(p, 12, 2, 1, 2, NONE, NONE);
        same(p, 13, 1, 4, 0, 1, NONE);
        same(p, 14, 0, 4, 0, 0, NONE);
        same(p, 15, 3, 1, 3, 14, NONE);
        same(p, 16, 7, 1, 4, NONE, NONE);
        same(p, 17, 2, 5, 0, 12, 2);
        same(p, 18, 3, 5, 0, 10, 15);
        same(p, 19, 7, 5, 0, 7, 16);
        same(p, 20, 4, 1, 5, 0, NONE);
        same(p, 21, 5, 1, 6, 18, NONE);
        Bench.same("versions", p.count(1), 22);
        RowProver q = Bench.told("array A 1; if a = a { b = 1; } if 1 < #A { } if 2 <= c { } d = c;");
        same(q, 8, 1, 1, 1, NONE, NONE);
        same(q, 9, 1, 5, 0, 8, 1);
        same(q, 10, 2, 3, 3, 2, NONE);
        same(q, 11, 2, 4, 3, 2, NONE);
        same(q, 12, 3, 1, 4, 2, NONE);
        Bench.same("versions", q.count(1), 13);
        RowProver r = Bench.told("if a < b { a = 1; } c = a; d = b;");
        same(r, 8, 0, 3, 0, 0, NONE);
        same(r, 9, 1, 3, 0, 1, NONE);
        same(r, 10, 0, 1, 1, NONE, NONE);
        same(r, 11, 0, 4, 0, 0, NONE);
        same(r, 12, 1, 4, 0, 1, NONE);
        same(r, 13, 0, 5, 0, 10, 11);
        same(r, 14, 2, 1, 2, 13, NONE);
        same(r, 15, 3, 1, 3, 1, NONE);
    }

    private static void loops() {
        RowProver p = Bench.told("array A 1; while c < a { d = A[c]; c = c + 1; } e = c; f = a; g = d;");
        same(p, 8, 2, 6, 0, 2, 14);
        same(p, 9, 3, 6, 0, 3, 13);
        same(p, 10, 2, 3, 0, 8, NONE);
        same(p, 11, 0, 3, 0, 0, NONE);
        same(p, 12, 2, 2, 1, 10, NONE);
        same(p, 13, 3, 1, 1, NONE, NONE);
        same(p, 14, 2, 1, 2, 12, NONE);
        same(p, 15, 2, 4, 0, 8, NONE);
        same(p, 16, 0, 4, 0, 0, NONE);
        same(p, 17, 4, 1, 3, 15, NONE);
        same(p, 18, 5, 1, 4, 16, NONE);
        same(p, 19, 6, 1, 5, 9, NONE);
        Bench.same("versions", p.count(1), 20);
        RowProver q = Bench.told("while a < a { } while 1 < 2 { b = 1; } c = b;");
        same(q, 8, 1, 6, 1, 1, 9);
        same(q, 9, 1, 1, 2, NONE, NONE);
        same(q, 10, 2, 1, 3, 8, NONE);
        Bench.same("versions", q.count(1), 11);
    }

    private static void nested() {
        RowProver p = Bench.told("while a < 9 { b = 0; while b < a { b = b + 1; if b = 3 { a = a + 1; } } a = a + 2; } c = b;");
        same(p, 8, 0, 6, 0, 0, 23);
        same(p, 9, 1, 6, 0, 1, 21);
        same(p, 10, 0, 3, 0, 8, NONE);
        same(p, 11, 1, 1, 1, NONE, NONE);
        same(p, 12, 0, 6, 2, 10, 20);
        same(p, 13, 1, 6, 2, 11, 16);
        same(p, 14, 1, 3, 2, 13, NONE);
        same(p, 15, 0, 3, 2, 12, NONE);
        same(p, 16, 1, 1, 3, 14, NONE);
        same(p, 17, 1, 3, 4, 16, NONE);
        same(p, 18, 0, 1, 5, 15, NONE);
        same(p, 19, 1, 4, 4, 16, NONE);
        same(p, 20, 0, 5, 4, 18, 15);
        same(p, 21, 1, 4, 2, 13, NONE);
        same(p, 22, 0, 4, 2, 12, NONE);
        same(p, 23, 0, 1, 6, 22, NONE);
        same(p, 24, 0, 4, 0, 8, NONE);
        same(p, 25, 2, 1, 7, 9, NONE);
        Bench.same("versions", p.count(1), 26);
    }

    /** All eight variables are told anew in five blocks, as often as 40 statements let them. */
    private static void most() {
        String all = "a=1;b=1;c=1;d=1;e=1;f=1;g=1;h=1;";
        RowProver p = Bench.told("while a<b{while c<d{while e<f{while g<h{if a<h{" + all + "}else{}}}}}");
        Bench.same("versions", p.count(1), 8 + 4 * (8 + 4) + 4 + 8 + 8);
        Bench.same("the last is of h", p.version(p.count(1) - 1, 0), 1);
        StringBuilder checked = new StringBuilder();
        for (char x = 'a'; x <= 'h'; x++) {
            checked.append(x).append("=A[").append(x).append("];");
        }
        String nest = "if a<b{".repeat(5) + checked + "}".repeat(5);
        RowProver r = Bench.told("array A 1;" + nest.repeat(3) + "if a<b{}");
        Bench.same("the most versions", r.count(1), 240);
        Bench.same("the last of them", r.version(239, 1), 4);
        Bench.same("its run", r.run(2, 0), 0);
        Bench.same("the first chain ends", r.chain(0, true, 6), 1001);
        RowProver q = Bench.told("if a<b{}".repeat(40));
        Bench.same("versions of many tests", q.count(1), 8 + 40 * 4);
    }

    private static void wrongCalls() {
        RowProver p = Bench.told("a = 1;");
        Bench.fails("version 9", IndexOutOfBoundsException.class, () -> p.version(9, 0));
        Bench.fails("version -1", IndexOutOfBoundsException.class, () -> p.version(-1, 0));
        Bench.fails("what 5", NoSuchElementException.class, () -> p.version(8, 5));
        Bench.fails("what -1", NoSuchElementException.class, () -> p.version(0, -1));
        Bench.fails("neither", IndexOutOfBoundsException.class, () -> p.version(9, 5));
    }
}
