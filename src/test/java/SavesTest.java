/** Promise 21: saves. */
public final class SavesTest {
    public static void main(String[] args) {
        most();
        less();
        wrongCalls();
        Bench.finish("SavesTest");
    }

    private static void most() {
        RowProver p = Bench.told("array A 2; a = in 0; b = in 1; while 0 < b { c = A[a]; b = b - 1; } out b;");
        p.input(0, 1);
        p.input(1, 3);
        Bench.same("the most", p.saves(1, 0, 20, true), 2 * 20 - 2);
        Bench.same("with the first such", p.saves(1, 0, 20, false), 20);
        Bench.same("the input stays", p.input(1, 3), 3);
        Bench.same("with the place", p.saves(0, -5, 15, true), 4);
        Bench.same("the first place such", p.saves(0, -5, 15, false), 0);
        Bench.same("an input that is not looked at", p.saves(2, -99, -79, true), 4);
        Bench.same("the first of all alike", p.saves(2, -99, -79, false), -99);
        Bench.same("the most up to 99", p.saves(1, 79, 99, true), 196);
        Bench.same("one number", p.saves(1, 3, 3, true), 4);
        Bench.same("it", p.saves(1, 3, 3, false), 3);
        p.input(1, 5);
        Bench.same("others as they are", p.saves(0, 0, 0, true), 8);
    }

    /** Where what is asked ahead fails, more is asked than at first. */
    private static void less() {
        RowProver p = Bench.told("array A 2; a = in 0; b = in 1; while 0 < b { c = A[a]; b = b - 1; }");
        p.input(1, 3);
        Bench.same("two more than at first", p.saves(0, 5, 8, true), -2);
        Bench.same("the first of them", p.saves(0, 5, 8, false), 5);
        Bench.same("one more below", p.saves(0, -3, 8, true), 4);
        Bench.same("less is the most of all", p.saves(0, -3, -1, true), -1);
        RowProver empty = new RowProver();
        Bench.same("of no program", empty.saves(0, -10, 10, true), 0);
        Bench.same("the first", empty.saves(0, -10, 10, false), -10);
    }

    private static void wrongCalls() {
        RowProver p = Bench.told("a = in 0;");
        p.input(0, 4);
        Bench.fails("input 3", IllegalArgumentException.class, () -> p.saves(3, 0, 1, true));
        Bench.fails("input -1", IllegalArgumentException.class, () -> p.saves(-1, 0, 1, false));
        Bench.fails("low -100", IllegalArgumentException.class, () -> p.saves(0, -100, -90, true));
        Bench.fails("high 100", IllegalArgumentException.class, () -> p.saves(0, 90, 100, true));
        Bench.fails("21 apart", IllegalArgumentException.class, () -> p.saves(0, 0, 21, true));
        Bench.fails("the wrong way", IllegalArgumentException.class, () -> p.saves(0, 1, 0, true));
        Bench.fails("far apart", IllegalArgumentException.class,
                () -> p.saves(0, Integer.MIN_VALUE, Integer.MAX_VALUE, true));
        Bench.same("20 apart", p.saves(0, 79, 99, true), 0);
        Bench.same("the input stays", p.input(0, 0), 4);
    }
}
