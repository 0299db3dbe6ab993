import java.util.NoSuchElementException;

/** Promise 6: statement. */
public final class StatementTest {
    public static void main(String[] args) {
        RowProver p = Bench.told("array A 4; c = 1; A[b] = c; out d; if a < b { e = A[f]; } else { g = 2; }"
                + " while a < h { while b < 3 { h = A[a]; if a = 1 { out c; } } out b; } out h;");
        same(p, 0, 0, 2, -1, -1, -1);
        same(p, 1, 1, 1, 0, -1, -1);
        same(p, 2, 2, 3, -1, -1, -1);
        same(p, 3, 3, -1, -1, -1, -1);
        same(p, 4, 0, 4, 1, -1, -1);
        same(p, 5, 0, 6, -1, -1, -1);
        same(p, 6, 4, -1, -1, 0, -1);
        same(p, 7, 4, -1, -1, 1, 0);
        same(p, 8, 0, 7, 2, -1, 1);
        same(p, 9, 3, -1, -1, -1, 1);
        same(p, 10, 2, 2, -1, -1, 1);
        same(p, 11, 2, 1, -1, -1, 0);
        same(p, 12, 2, 7, -1, -1, -1);
        Bench.fails("statement 13", IndexOutOfBoundsException.class, () -> p.statement(13, 0));
        Bench.fails("statement -1", IndexOutOfBoundsException.class, () -> p.statement(-1, 0));
        Bench.fails("statement far", IndexOutOfBoundsException.class, () -> p.statement(Integer.MAX_VALUE, 9));
        Bench.fails("what 5", NoSuchElementException.class, () -> p.statement(12, 5));
        Bench.fails("what -1", NoSuchElementException.class, () -> p.statement(0, -1));
        Bench.fails("neither", IndexOutOfBoundsException.class, () -> p.statement(13, 5));
        RowProver empty = new RowProver();
        Bench.fails("of no program", IndexOutOfBoundsException.class, () -> empty.statement(0, 0));
        Bench.finish("StatementTest");
    }

    private static void same(RowProver p, int statement, int... due) {
        for (int what = 0; what < due.length; what++) {
            Bench.same("statement(" + statement + ", " + what + ")", p.statement(statement, what), due[what]);
        }
    }
}
