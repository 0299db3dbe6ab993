import java.util.NoSuchElementException;

/**
 * The edges of all calls (promises 1 to 22): numbers too small and too large, calls that are refused, which exception
 * comes first, and that nothing changes by it. One method for each sentence of the document, which stands ahead of it.
 */
public final class EdgeCallTest {
    private static final int NONE = RowProver.NONE;
    private static final Class<? extends RuntimeException> INDEX = IndexOutOfBoundsException.class;
    private static final Class<? extends RuntimeException> ARGUMENT = IllegalArgumentException.class;
    private static final Class<? extends RuntimeException> ELEMENT = NoSuchElementException.class;
    private static final Class<? extends RuntimeException> STATE = IllegalStateException.class;
    private static final int[] FAR_OFF = {-2, -99, Integer.MIN_VALUE, Integer.MAX_VALUE, Integer.MIN_VALUE + 1, 100000,
        Integer.MAX_VALUE - 1, 1 << 16, 256, 1 << 31 | 1};
    /** Six statements, 19 versions, two checks, a loop; rows A and C. */
    private static final String PROGRAM = "array A 2;array C 9;a=in 0;while b<2{c=A[b];C[a]=c;b=b+1;}out c;";

    public static void main(String[] args) {
        newObject();
        feedToTheFull();
        feedHighestFirst();
        endOfTheTape();
        endWithinAWord();
        readUsesUp();
        readOfAWrongText();
        faultOfTheLatestRead();
        statement();
        version();
        above();
        below();
        check();
        chain();
        stands();
        loop();
        hangs();
        length();
        input();
        run();
        out();
        place();
        was();
        saves();
        count();
        theOneToldFirst();
        refusedCallsChangeNothing();
        wrongTextsChangeNothing();
        stayWithAnotherProgram();
        nothingStaysOfOtherTexts();
        Bench.finish("EdgeCallTest");
    }

    /** "THE PROGRAM is empty"; "At first THE PROGRAM is empty. INPUTS are 0 at first"; lengths "each 0 at first". */
    private static void newObject() {
        RowProver p = new RowProver();
        int[] counts = {0, 8, 0, 0, 0, 0, 0, 0, NONE, NONE, NONE};
        for (int what = 0; what < counts.length; what++) {
            Bench.same("count(" + what + ")", p.count(what), counts[what]);
        }
        Bench.same("fault", p.fault(), NONE);
        Bench.same("the tape is empty", p.end(1), false);
        for (int i = 0; i < 3; i++) {
            int each = i;
            Bench.same("input " + i, p.input(i, 0), 0);
            Bench.same("length " + i, p.length(i, 0), 0);
            Bench.fails("above of row " + i, STATE, () -> p.above(each, 0));
            Bench.fails("place of row " + i, ELEMENT, () -> p.place(each, each, 0));
            int[] run = {0, NONE, 0, 0, 0, 0, 0};
            for (int what = 0; what < run.length; what++) {
                Bench.same("run(" + i + ", " + what + ")", p.run(i, what), run[what]);
            }
            Bench.same("was", p.was(i, 7), 0);
            Bench.fails("out", ELEMENT, () -> p.out(each, 0));
        }
        Bench.fails("statement", INDEX, () -> p.statement(0, 0));
        Bench.fails("version", INDEX, () -> p.version(8, 0));
        Bench.fails("check", INDEX, () -> p.check(0, 0));
        Bench.fails("chain", INDEX, () -> p.chain(0, false, 0));
        Bench.fails("loop", INDEX, () -> p.loop(0, 0));
        Bench.fails("hangs", INDEX, () -> p.hangs(0));
    }

    /** "how many it has; NONE, and none come, if it would have more than 400": empty, full, from 380 to 400, from 381. */
    private static void feedToTheFull() {
        RowProver p = new RowProver();
        int blanks = 0x20202020;
        for (int i = 1; i <= 20; i++) {
            Bench.same("feed " + i, p.feed(blanks, blanks, blanks, blanks, blanks), 20 * i);
        }
        Bench.same("a full tape", p.feed(0, 0, 0, 0, 0), NONE);
        Bench.same("and again", p.feed(blanks, blanks, blanks, blanks, blanks), NONE);
        Bench.same("none came", p.end(401), false);
        Bench.same("400 are there", p.end(400), true);
        Bench.same("399 now", p.end(399), true);
        Bench.same("from 399", p.feed(0, 0, 0, 0, 0), NONE);
        Bench.same("399 still", p.end(400), false);
        Bench.same("381 now", p.end(381), true);
        Bench.same("from 381", p.feed(0, 0, 0, 0, 0), NONE);
        Bench.same("381 still", p.end(382), false);
        Bench.same("380 now", p.end(380), true);
        Bench.same("from 380", p.feed(blanks, blanks, blanks, blanks, blanks), 400);
        Bench.same("nothing but blanks came", p.read(), 0);
    }

    /** "of each number the highest first": also of numbers below 0, whose bytes are 128 to 255. */
    private static void feedHighestFirst() {
        int[][] numbers = {{0x80000000, 0}, {0xff000000, 0}, {0x20800000, 1}, {0x2020ff00, 2}, {0x202020ff, 3},
            {0x20202080, 3}, {-1, 0}, {Integer.MIN_VALUE, 0}, {Integer.MAX_VALUE, 0}};
        for (int[] one : numbers) {
            for (int place = 0; place < 5; place++) {
                int[] n = {0x20202020, 0x20202020, 0x20202020, 0x20202020, 0x20202020};
                n[place] = one[0];
                RowProver p = new RowProver();
                p.feed(n[0], n[1], n[2], n[3], n[4]);
                Bench.fails("read of " + one[0], ARGUMENT, p::read);
                Bench.same("fault of " + one[0] + " at " + place, p.fault(), 4 * place + one[1]);
            }
        }
        RowProver p = new RowProver();
        p.feed(0x613d313b, 0x623d323b, 0x633d333b, 0x643d343b, 0x653d353b);
        Bench.same("a=1;b=2;c=3;d=4;e=5;", p.read(), 5);
        for (int i = 0; i < 5; i++) {
            Bench.same("the variable of " + i, p.statement(i, 1), i);
            Bench.same("its number", p.was(0, 8 + i), i + 1);
        }
    }

    /** "true; false, and nothing happens, if it has fewer, or n is below 0". */
    private static void endOfTheTape() {
        RowProver p = new RowProver();
        Bench.same("none of none", p.end(0), true);
        Bench.same("one of none", p.end(1), false);
        Bench.same("-1 of none", p.end(-1), false);
        p.feed(0x613d313b, 0x623d323b, 0x633d333b, 0x643d343b, 0x653d353b);
        Bench.same("21 of 20", p.end(21), false);
        Bench.same("-1 of 20", p.end(-1), false);
        for (int n : FAR_OFF) {
            Bench.same(n + " of 20", p.end(n), false);
        }
        Bench.same("nothing happened", p.end(20), true);
        Bench.same("19 of 20", p.end(19), true);
        Bench.same("20 of 19", p.end(20), false);
        Bench.same("16 of 19", p.end(16), true);
        Bench.same("the first 16 alone", p.read(), 4);
        p.feed(0x613d313b, 0x623d323b, 0x633d333b, 0x643d343b, 0x653d353b);
        p.end(4);
        Bench.same("behind the first 4", p.feed(0x623d323b, 0x20202020, 0x20202020, 0x20202020, 0x20202020), 24);
        Bench.same("the first 4 and 20", p.read(), 2);
    }

    /** "The TAPE has its first n bytes alone": what came behind is no part of a word, a NUMBER, a sign. */
    private static void endWithinAWord() {
        String[] whole = {"out ab;", "a=12;", "if a<=b{}", "a=b;", "array A 1;", "a=b+12;"};
        String[] parts = {"out a", "a=1", "if a<", "a", "array A", "a=b+1"};
        for (int i = 0; i < whole.length; i++) {
            RowProver p = new RowProver();
            Bench.tape(p, whole[i]);
            Bench.same("end", p.end(parts[i].length()), true);
            Bench.fails("read of " + parts[i], ARGUMENT, p::read);
            Bench.same("fault of " + parts[i], p.fault(), parts[i].length());
        }
        RowProver p = new RowProver();
        Bench.tape(p, "a=1;b=2;;");
        p.end(8);
        Bench.same("what was wrong is cut off", p.read(), 2);
    }

    /** "Uses the TAPE up: it is THE PROGRAM: how many STATEMENTS". */
    private static void readUsesUp() {
        RowProver p = Bench.told(PROGRAM);
        Bench.same("nothing is left", p.end(1), false);
        Bench.same("an empty tape is an empty program", p.read(), 0);
        Bench.same("it is the program", p.count(0), 0);
        Bench.same("no versions are left", p.count(1), 8);
        Bench.same("no checks are left", p.count(2), 0);
        Bench.same("no rows are left", p.count(7), 0);
        Bench.same("an empty tape again", p.read(), 0);
        Bench.tape(p, PROGRAM);
        Bench.same("the whole program", p.read(), 6);
        Bench.tape(p, "a=1;");
        Bench.same("a smaller one", p.read(), 1);
        Bench.fails("the others are gone", INDEX, () -> p.statement(1, 0));
        Bench.same("its versions", p.count(1), 9);
    }

    /** "IllegalArgumentException: the text is wrong"; the TAPE "is used up", THE PROGRAM stays. */
    private static void readOfAWrongText() {
        String[] wrong = {"a", ";", "a=1;a", "\u0000", "array A 21;", "a=1;".repeat(40) + "a=1;"};
        for (String text : wrong) {
            RowProver p = Bench.told(PROGRAM);
            String before = picture(p);
            Bench.tape(p, text);
            Bench.fails("read of " + text, ARGUMENT, p::read);
            Bench.same("a fault of " + text, p.fault() >= 0, true);
            Bench.same("the program stays, behind " + text, picture(p).equals(before), true);
            Bench.same("the tape is used up", p.end(1), false);
            Bench.same("an empty one is read", p.read(), 0);
        }
    }

    /** "THE FAULT of the latest read(); NONE without one, and ahead of any". */
    private static void faultOfTheLatestRead() {
        RowProver p = new RowProver();
        Bench.same("ahead of any", p.fault(), NONE);
        Bench.tape(p, ";");
        Bench.same("not read yet", p.fault(), NONE);
        Bench.fails("read", ARGUMENT, p::read);
        Bench.same("at 0", p.fault(), 0);
        Bench.same("still at 0", p.fault(), 0);
        Bench.tape(p, "a=1;a");
        Bench.same("of the latest read", p.fault(), 0);
        Bench.fails("read", ARGUMENT, p::read);
        Bench.same("of the latest read now", p.fault(), 5);
        Bench.tape(p, "a=1;");
        p.read();
        Bench.same("without one", p.fault(), NONE);
    }

    /** "IndexOutOfBoundsException: there is no such STATEMENT ..". "NoSuchElementException: another what." */
    private static void statement() {
        RowProver p = Bench.told(PROGRAM);
        int[] last = {2, 2, NONE, NONE, NONE};
        for (int what = 0; what < 5; what++) {
            Bench.same("of the last, " + what, p.statement(5, what), last[what]);
        }
        int[] kinds = {0, 4, 0, 1, 0, 2};
        for (int n = 0; n < kinds.length; n++) {
            Bench.same("the kind of " + n, p.statement(n, 0), kinds[n]);
        }
        Bench.fails("statement 6", INDEX, () -> p.statement(6, 0));
        Bench.fails("statement -1", INDEX, () -> p.statement(-1, 0));
        Bench.fails("what 5", ELEMENT, () -> p.statement(0, 5));
        Bench.fails("what -1", ELEMENT, () -> p.statement(5, -1));
        for (int n : FAR_OFF) {
            Bench.fails("statement " + n, INDEX, () -> p.statement(n, 0));
            Bench.fails("what " + n, ELEMENT, () -> p.statement(0, n));
        }
    }

    /** "IndexOutOfBoundsException: there is no such .. VERSION". "NoSuchElementException: another what." */
    private static void version() {
        RowProver p = Bench.told(PROGRAM);
        int last = p.count(1) - 1;
        Bench.same("the last is of b", p.version(last, 0), 1);
        Bench.same("it is of the test that does not hold", p.version(last, 1), 4);
        Bench.fails("behind the last", INDEX, () -> p.version(last + 1, 0));
        Bench.fails("version -1", INDEX, () -> p.version(-1, 0));
        Bench.fails("what 5", ELEMENT, () -> p.version(0, 5));
        Bench.fails("what -1", ELEMENT, () -> p.version(last, -1));
        for (int n : FAR_OFF) {
            Bench.fails("version " + n, INDEX, () -> p.version(n, 0));
            Bench.fails("what " + n, ELEMENT, () -> p.version(0, n));
        }
    }

    /** "there is no such .. ROW (A to C, 0 to 2, told or not)". "IllegalStateException: the ROW was not told." */
    private static void above() {
        RowProver p = Bench.told(PROGRAM);
        int last = p.count(1) - 1;
        Bench.same("of A", p.above(0, 0), -2);
        Bench.same("of C", p.above(2, 0), -9);
        Bench.same("of the last version", p.above(2, last), 3 - 1 - 9);
        Bench.fails("of B, not told", STATE, () -> p.above(1, 0));
        Bench.fails("of B, not told, the last version", STATE, () -> p.above(1, last));
        Bench.fails("of row 3", INDEX, () -> p.above(3, 0));
        Bench.fails("of row -1", INDEX, () -> p.above(-1, 0));
        Bench.fails("behind the last version", INDEX, () -> p.above(0, last + 1));
        Bench.fails("of version -1", INDEX, () -> p.above(0, -1));
        for (int n : FAR_OFF) {
            Bench.fails("of row " + n, INDEX, () -> p.above(n, 0));
            Bench.fails("of version " + n, INDEX, () -> p.above(0, n));
        }
        Bench.tape(p, "a=1;");
        p.read();
        Bench.fails("no row is told now", STATE, () -> p.above(0, 0));
    }

    /** "IndexOutOfBoundsException: there is no such .. VERSION". */
    private static void below() {
        RowProver p = Bench.told(PROGRAM);
        int last = p.count(1) - 1;
        Bench.same("of the first", p.below(0), 0);
        Bench.same("of the last", p.below(last), 2);
        Bench.same("of an input", p.below(8), RowProver.FAR);
        Bench.fails("behind the last", INDEX, () -> p.below(last + 1));
        Bench.fails("of -1", INDEX, () -> p.below(-1));
        for (int n : FAR_OFF) {
            Bench.fails("of " + n, INDEX, () -> p.below(n));
        }
    }

    /** "IndexOutOfBoundsException: there is no such .. CHECK". "NoSuchElementException: another what." */
    private static void check() {
        RowProver p = Bench.told(PROGRAM);
        Bench.same("of the first", p.check(0, 0), 2);
        Bench.same("of the last", p.check(1, 0), 3);
        Bench.same("what 8", p.check(1, 8), 0);
        Bench.fails("check 2", INDEX, () -> p.check(2, 0));
        Bench.fails("check -1", INDEX, () -> p.check(-1, 0));
        Bench.fails("what 9", ELEMENT, () -> p.check(0, 9));
        Bench.fails("what -1", ELEMENT, () -> p.check(1, -1));
        for (int n : FAR_OFF) {
            Bench.fails("check " + n, INDEX, () -> p.check(n, 0));
            Bench.fails("what " + n, ELEMENT, () -> p.check(0, n));
        }
    }

    /** "there is no such .. CHECK". "IllegalStateException: that is not SHOWN." "NONE behind it". */
    private static void chain() {
        RowProver p = Bench.told(PROGRAM);
        Bench.same("of the first", p.chain(0, false, 0), p.check(0, 2));
        Bench.fails("of the last, not shown above", STATE, () -> p.chain(1, true, 0));
        Bench.fails("of the last, not shown below", STATE, () -> p.chain(1, false, 0));
        Bench.fails("check 2", INDEX, () -> p.chain(2, true, 0));
        Bench.fails("check -1", INDEX, () -> p.chain(-1, false, 0));
        for (int n : FAR_OFF) {
            Bench.fails("check " + n, INDEX, () -> p.chain(n, true, 0));
            Bench.same("link " + n, p.chain(0, true, n), NONE);
            Bench.fails("not shown, link " + n, STATE, () -> p.chain(1, true, n));
        }
        RowProver half = Bench.told("array A 2;a=2;b=A[a];a=-1;b=A[a];");
        Bench.same("below alone", half.chain(0, false, 1), 1001);
        Bench.fails("above is not", STATE, () -> half.chain(0, true, 1));
        Bench.same("above alone", half.chain(1, true, 1), 1001);
        Bench.fails("below is not", STATE, () -> half.chain(1, false, 1));
    }

    /** "IndexOutOfBoundsException: there is no such .. VERSION". */
    private static void stands() {
        RowProver p = Bench.told(PROGRAM);
        int last = p.count(1) - 1;
        Bench.same("the last stands for the round one", p.version(p.stands(last, false), 1), 6);
        Bench.same("and 0", p.stands(last, true), 0);
        Bench.fails("behind the last", INDEX, () -> p.stands(last + 1, false));
        Bench.fails("behind the last, n", INDEX, () -> p.stands(last + 1, true));
        Bench.fails("of -1", INDEX, () -> p.stands(-1, false));
        for (int n : FAR_OFF) {
            Bench.fails("of " + n, INDEX, () -> p.stands(n, true));
        }
    }

    /** "IndexOutOfBoundsException: there is no such .. LOOP". "NoSuchElementException: another what." */
    private static void loop() {
        RowProver p = Bench.told(PROGRAM);
        int[] due = {1, NONE, 1, 2, 2};
        for (int what = 0; what < due.length; what++) {
            Bench.same("loop(0, " + what + ")", p.loop(0, what), due[what]);
        }
        Bench.fails("loop 1", INDEX, () -> p.loop(1, 0));
        Bench.fails("loop -1", INDEX, () -> p.loop(-1, 0));
        Bench.fails("what 5", ELEMENT, () -> p.loop(0, 5));
        Bench.fails("what -1", ELEMENT, () -> p.loop(0, -1));
        for (int n : FAR_OFF) {
            Bench.fails("loop " + n, INDEX, () -> p.loop(n, 0));
            Bench.fails("what " + n, ELEMENT, () -> p.loop(0, n));
        }
    }

    /** "IndexOutOfBoundsException: there is no such .. CHECK". */
    private static void hangs() {
        RowProver p = Bench.told(PROGRAM);
        String before = picture(p);
        Bench.same("of the first", p.hangs(0), 0);
        Bench.same("of the last", p.hangs(1), 0);
        Bench.same("all stays", picture(p).equals(before), true);
        Bench.fails("of 2", INDEX, () -> p.hangs(2));
        Bench.fails("of -1", INDEX, () -> p.hangs(-1));
        for (int n : FAR_OFF) {
            Bench.fails("of " + n, INDEX, () -> p.hangs(n));
        }
    }

    /** "The length of a ROW is told (0 to 40): what it was told. IllegalArgumentException: it is none." */
    private static void length() {
        RowProver p = Bench.told("array A 2;array B 0;a=#A;b=#B;");
        Bench.same("40", p.length(1, 40), 0);
        Bench.same("it is 40", p.was(0, 9), 40);
        Bench.same("0", p.length(1, 0), 40);
        Bench.same("it is 0", p.was(0, 9), 0);
        Bench.same("of C, not told", p.length(2, 40), 0);
        Bench.same("it was told so", p.length(2, 0), 40);
        Bench.fails("41", ARGUMENT, () -> p.length(0, 41));
        Bench.fails("-1", ARGUMENT, () -> p.length(0, -1));
        Bench.fails("row 3", INDEX, () -> p.length(3, 0));
        Bench.fails("row -1", INDEX, () -> p.length(-1, 0));
        for (int n : FAR_OFF) {
            Bench.fails("length " + n, ARGUMENT, () -> p.length(0, n));
            Bench.fails("row " + n, INDEX, () -> p.length(n, 0));
        }
        Bench.same("nothing was told", p.length(0, 1), 0);
        Bench.same("what it was told, not what it is", p.length(0, 0), 1);
    }

    /** "An INPUT (0 to 2) is told (-99 to 99): what it was. IllegalArgumentException: one of both is none." */
    private static void input() {
        RowProver p = Bench.told("a=in 0;b=in 1;c=in 2;");
        for (int d = 0; d < 3; d++) {
            Bench.same("99", p.input(d, 99), 0);
            Bench.same("it is 99", p.was(0, 8 + d), 99);
            Bench.same("-99", p.input(d, -99), 99);
            Bench.same("it is -99", p.was(0, 8 + d), -99);
        }
        Bench.fails("100", ARGUMENT, () -> p.input(0, 100));
        Bench.fails("-100", ARGUMENT, () -> p.input(0, -100));
        Bench.fails("input 3", ARGUMENT, () -> p.input(3, 0));
        Bench.fails("input -1", ARGUMENT, () -> p.input(-1, 0));
        Bench.fails("both", ARGUMENT, () -> p.input(3, 100));
        for (int n : FAR_OFF) {
            if (n < -99 || n > 99) {
                Bench.fails("number " + n, ARGUMENT, () -> p.input(0, n));
            }
            Bench.fails("input " + n, ARGUMENT, () -> p.input(n, 0));
        }
        Bench.same("nothing was told", p.input(0, 0), -99);
    }

    /** "IllegalArgumentException: how is none (0 to 2); NoSuchElementException: another what." */
    private static void run() {
        RowProver p = Bench.told(PROGRAM);
        Bench.same("how 0, what 0", p.run(0, 0), 0);
        Bench.same("how 2, what 6", p.run(2, 6), 2);
        Bench.fails("how 3", ARGUMENT, () -> p.run(3, 0));
        Bench.fails("how -1", ARGUMENT, () -> p.run(-1, 0));
        Bench.fails("what 7", ELEMENT, () -> p.run(0, 7));
        Bench.fails("what -1", ELEMENT, () -> p.run(2, -1));
        for (int n : FAR_OFF) {
            Bench.fails("how " + n, ARGUMENT, () -> p.run(n, 0));
            Bench.fails("what " + n, ELEMENT, () -> p.run(0, n));
        }
    }

    /** "IllegalArgumentException: how is none; NoSuchElementException: there is none such." */
    private static void out() {
        RowProver p = Bench.told(PROGRAM);
        Bench.same("the only one", p.out(0, 0), 1);
        Bench.fails("out 1", ELEMENT, () -> p.out(0, 1));
        Bench.fails("out -1", ELEMENT, () -> p.out(2, -1));
        Bench.fails("how 3", ARGUMENT, () -> p.out(3, 0));
        Bench.fails("how -1", ARGUMENT, () -> p.out(-1, 0));
        for (int n : FAR_OFF) {
            Bench.fails("out " + n, ELEMENT, () -> p.out(1, n));
            Bench.fails("how " + n, ARGUMENT, () -> p.out(n, 0));
        }
    }

    /** "IllegalArgumentException: how is none; NoSuchElementException: the ROW was not told, or has no such place." */
    private static void place() {
        RowProver p = Bench.told(PROGRAM);
        Bench.same("the last of A", p.place(0, 0, 1), 1);
        Bench.same("the last of C", p.place(2, 2, 8), 8);
        Bench.fails("behind A", ELEMENT, () -> p.place(0, 0, 2));
        Bench.fails("ahead of A", ELEMENT, () -> p.place(0, 0, -1));
        Bench.fails("B was not told", ELEMENT, () -> p.place(0, 1, 0));
        Bench.fails("row 3", INDEX, () -> p.place(0, 3, 0));
        Bench.fails("row -1", INDEX, () -> p.place(0, -1, 0));
        Bench.fails("how 3", ARGUMENT, () -> p.place(3, 0, 0));
        Bench.fails("how -1", ARGUMENT, () -> p.place(-1, 0, 0));
        for (int n : FAR_OFF) {
            Bench.fails("place " + n, ELEMENT, () -> p.place(0, 0, n));
            Bench.fails("row " + n, INDEX, () -> p.place(0, n, 0));
            Bench.fails("how " + n, ARGUMENT, () -> p.place(n, 0, 0));
        }
        p.length(1, 9);
        Bench.fails("B has a length, but was not told", ELEMENT, () -> p.place(0, 1, 0));
    }

    /** "there is no such .. VERSION". "IllegalArgumentException: how is none." */
    private static void was() {
        RowProver p = Bench.told(PROGRAM);
        int last = p.count(1) - 1;
        Bench.same("of the last", p.was(2, last), 2);
        Bench.same("of the first", p.was(0, 0), 0);
        Bench.fails("behind the last", INDEX, () -> p.was(0, last + 1));
        Bench.fails("of -1", INDEX, () -> p.was(0, -1));
        Bench.fails("how 3", ARGUMENT, () -> p.was(3, 0));
        Bench.fails("how -1", ARGUMENT, () -> p.was(-1, 0));
        for (int n : FAR_OFF) {
            Bench.fails("of " + n, INDEX, () -> p.was(0, n));
            Bench.fails("how " + n, ARGUMENT, () -> p.was(n, 0));
        }
    }

    /** "from low to high (-99 to 99, 20 apart at most)". "IllegalArgumentException: one of these is none." */
    private static void saves() {
        RowProver p = Bench.told(PROGRAM);
        p.input(0, 7);
        int[][] right = {{0, 0}, {-99, -99}, {99, 99}, {-99, -79}, {79, 99}, {-20, 0}, {0, 20}, {-10, 10}};
        for (int[] one : right) {
            Bench.same("from " + one[0], p.saves(0, one[0], one[1], true) < 99, true);
            int first = p.saves(0, one[0], one[1], false);
            Bench.same("within " + one[0], first >= one[0] && first <= one[1], true);
        }
        int[][] wrong = {{-100, -99}, {-100, -100}, {99, 100}, {100, 100}, {1, 0}, {99, -99}, {0, 21}, {-99, -78},
            {78, 99}, {-99, 99}, {Integer.MIN_VALUE, Integer.MAX_VALUE}, {Integer.MAX_VALUE, Integer.MIN_VALUE},
            {Integer.MIN_VALUE, Integer.MIN_VALUE}, {Integer.MAX_VALUE, Integer.MAX_VALUE}, {0, Integer.MAX_VALUE},
            {Integer.MIN_VALUE, 0}, {Integer.MIN_VALUE, -99}, {99, Integer.MAX_VALUE}};
        for (int[] one : wrong) {
            Bench.fails("from " + one[0] + " to " + one[1], ARGUMENT, () -> p.saves(0, one[0], one[1], true));
            Bench.fails("with, from " + one[0] + " to " + one[1], ARGUMENT, () -> p.saves(0, one[0], one[1], false));
        }
        Bench.fails("input 3", ARGUMENT, () -> p.saves(3, 0, 0, true));
        Bench.fails("input -1", ARGUMENT, () -> p.saves(-1, 0, 0, false));
        for (int n : FAR_OFF) {
            Bench.fails("input " + n, ARGUMENT, () -> p.saves(n, 0, 0, true));
        }
        Bench.same("the input stays", p.input(0, 0), 7);
    }

    /** "NONE for another what." */
    private static void count() {
        RowProver p = Bench.told(PROGRAM);
        int[] due = {6, p.count(1), 2, 1, 2, 1, 1, 5, 2, NONE, 9};
        for (int what = 0; what < due.length; what++) {
            Bench.same("count(" + what + ")", p.count(what), due[what]);
        }
        Bench.same("count(11)", p.count(11), NONE);
        Bench.same("count(-1)", p.count(-1), NONE);
        for (int n : FAR_OFF) {
            Bench.same("count(" + n + ")", p.count(n), NONE);
        }
        RowProver nought = Bench.told("array A 0;array B 20;array C 0;");
        int[] places = {0, 8, 0, 0, 0, 0, 0, 7, 0, 20, 0};
        for (int what = 0; what < places.length; what++) {
            Bench.same("count(" + what + ") of rows alone", nought.count(what), places[what]);
        }
    }

    /** "Of several exceptions the one told first is thrown". */
    private static void theOneToldFirst() {
        RowProver p = Bench.told(PROGRAM);
        Bench.fails("statement and what", INDEX, () -> p.statement(6, 5));
        Bench.fails("version and what", INDEX, () -> p.version(-1, -1));
        Bench.fails("row not told and version", INDEX, () -> p.above(1, -1));
        Bench.fails("row not told and version behind", INDEX, () -> p.above(1, 99));
        Bench.fails("check and what", INDEX, () -> p.check(2, 9));
        Bench.fails("check and not shown", INDEX, () -> p.chain(2, true, -1));
        Bench.fails("loop and what", INDEX, () -> p.loop(1, 5));
        Bench.fails("row and length", INDEX, () -> p.length(3, 41));
        Bench.fails("how and what of a run", ARGUMENT, () -> p.run(3, 7));
        Bench.fails("how and out", ARGUMENT, () -> p.out(3, 1));
        Bench.fails("row and how", INDEX, () -> p.place(3, 3, 0));
        Bench.fails("row, how and place", INDEX, () -> p.place(-1, -1, -1));
        Bench.fails("row and place", INDEX, () -> p.place(0, 3, 99));
        Bench.fails("how and place", ARGUMENT, () -> p.place(3, 0, 99));
        Bench.fails("how and row not told", ARGUMENT, () -> p.place(3, 1, 0));
        Bench.fails("version and how", INDEX, () -> p.was(3, 99));
    }

    /** All that an object answers, told as a text; less than 200 calls. */
    private static String picture(RowProver p) {
        StringBuilder all = new StringBuilder();
        for (int what = 0; what < 11; what++) {
            all.append(p.count(what)).append(' ');
        }
        for (int s = 0; s < p.count(0); s++) {
            all.append(p.statement(s, 0)).append(p.statement(s, 1)).append(' ');
        }
        for (int v = 0; v < p.count(1); v++) {
            all.append(p.version(v, 1)).append(' ').append(p.below(v)).append(' ').append(p.above(0, v)).append(' ');
            all.append(p.was(0, v)).append(' ');
        }
        for (int what = 0; what < 9; what++) {
            all.append(p.check(0, what)).append(' ').append(p.check(1, what)).append(' ');
        }
        for (int how = 0; how < 3; how++) {
            for (int what = 0; what < 7; what++) {
                all.append(p.run(how, what)).append(' ');
            }
        }
        all.append(p.hangs(0)).append(' ').append(p.chain(0, true, 1)).append(' ').append(p.loop(0, 4));
        return all.toString();
    }

    private static void told(RowProver p) {
        for (int i = 0; i < 3; i++) {
            Bench.same("input " + i + " stays", p.input(i, i + 1), i + 1);
            Bench.same("length " + i + " stays", p.length(i, i + 10), i + 10);
        }
    }

    /** "a call that throws changes nothing". */
    private static void refusedCallsChangeNothing() {
        RowProver p = Bench.told(PROGRAM);
        for (int i = 0; i < 3; i++) {
            p.input(i, i + 1);
            p.length(i, i + 10);
        }
        String before = picture(p);
        Bench.tape(p, "a=1;b=2;");
        Bench.fails("statement", INDEX, () -> p.statement(6, 0));
        Bench.fails("statement's what", ELEMENT, () -> p.statement(5, 5));
        Bench.fails("version", INDEX, () -> p.version(99, 0));
        Bench.fails("version's what", ELEMENT, () -> p.version(0, 5));
        Bench.fails("above", STATE, () -> p.above(1, 0));
        Bench.fails("below", INDEX, () -> p.below(99));
        Bench.fails("check", INDEX, () -> p.check(2, 0));
        Bench.fails("chain", STATE, () -> p.chain(1, true, 0));
        Bench.fails("stands", INDEX, () -> p.stands(99, true));
        Bench.fails("loop", INDEX, () -> p.loop(1, 0));
        Bench.fails("hangs", INDEX, () -> p.hangs(2));
        Bench.fails("length", ARGUMENT, () -> p.length(0, 41));
        Bench.fails("length's row", INDEX, () -> p.length(3, 4));
        Bench.fails("input", ARGUMENT, () -> p.input(0, 100));
        Bench.fails("input's number", ARGUMENT, () -> p.input(3, 9));
        Bench.fails("run", ARGUMENT, () -> p.run(3, 0));
        Bench.fails("run's what", ELEMENT, () -> p.run(0, 7));
        Bench.fails("out", ELEMENT, () -> p.out(0, 9));
        Bench.fails("place", ELEMENT, () -> p.place(0, 0, 40));
        Bench.fails("was", INDEX, () -> p.was(0, 99));
        Bench.fails("saves", ARGUMENT, () -> p.saves(0, 5, 26, true));
        Bench.fails("saves beyond 99", ARGUMENT, () -> p.saves(0, 90, 100, true));
        told(p);
        Bench.same("all is as before", picture(p).equals(before), true);
        Bench.same("the tape has its bytes", p.end(9), false);
        Bench.same("all of them", p.end(8), true);
        Bench.same("no fault", p.fault(), NONE);
        Bench.same("the tape is read", p.read(), 2);
    }

    /** "a call that throws changes nothing but the TAPE, where it is used up, and fault(), where a text is read". */
    private static void wrongTextsChangeNothing() {
        RowProver p = Bench.told(PROGRAM);
        for (int i = 0; i < 3; i++) {
            p.input(i, i + 1);
            p.length(i, i + 10);
        }
        String before = picture(p);
        Bench.tape(p, "array A 20;array B 20;array C 1;while a<b{h=A[a];out h;}if");
        Bench.fails("read", ARGUMENT, p::read);
        Bench.same("the fault", p.fault(), 58);
        told(p);
        Bench.same("all is as before", picture(p).equals(before), true);
        Bench.same("the tape is used up", p.end(1), false);
        Bench.fails("another call that throws", INDEX, () -> p.statement(6, 0));
        Bench.same("the fault stays", p.fault(), 58);
    }

    /** "INPUTS are 0 at first; they and lengths stay with another PROGRAM". */
    private static void stayWithAnotherProgram() {
        RowProver p = new RowProver();
        for (int i = 0; i < 3; i++) {
            Bench.same("input at first", p.input(i, i + 1), 0);
            Bench.same("length at first", p.length(i, i + 10), 0);
        }
        String[] programs = {"", PROGRAM, "array B 12;a=#B;", "array A 1;array B 1;array C 1;a=in 0;b=#A;c=#B;d=#C;"};
        for (String program : programs) {
            Bench.tape(p, program);
            p.read();
            told(p);
        }
        Bench.same("in 0", p.was(0, 8), 1);
        Bench.same("#A", p.was(0, 9), 10);
        Bench.same("#B", p.was(0, 10), 11);
        Bench.same("#C", p.was(0, 11), 12);
    }

    /** "it is THE PROGRAM": nothing is left of those read ahead of it, right or wrong, but INPUTS and lengths. */
    private static void nothingStaysOfOtherTexts() {
        String[] texts = {"", "a=1;b=c;", PROGRAM,
            "array B 3;if a=b{a=b-1;}else{if a<=2{b=5;}B[b]=a;}out a;while b<=3{b=b+2;c=#B;}",
            "array A 20;d=in 1;d=d;if d=4{e=A[d];}else{e=A[d];}e=A[d];", "while a<2{while 1<b{a=b+1;}}",
            "array A 9;b=A[a];b=A[a];", "array A 9;a=in 0;b=A[a];",
            "array A 1;array B 2;array C 3;a=in 0;while b<3{a=A[a];C[b]=b;while b<2{b=b+1;}out b;}if a=1{b=A[a];}else",
            "array A 9;b=A[a];b=A[b];while a=b{while a=b{b=A[a];a=a-99;b=a;}};"};
        for (String first : texts) {
            for (String text : texts) {
                RowProver fresh = new RowProver();
                if (readIfRight(fresh, text)) {
                    String due = Bench.picture(fresh);
                    nothingStays(due, first, text);
                    nothingStays(due, first, "a=1;", text);
                    nothingStays(due, first, "a=1;", first, text);
                }
            }
        }
    }

    private static void nothingStays(String due, String... texts) {
        RowProver used = new RowProver();
        for (String text : texts) {
            readIfRight(used, text);
        }
        Bench.same(String.join(", then ", texts), Bench.picture(used).equals(due), true);
    }

    private static boolean readIfRight(RowProver p, String text) {
        Bench.tape(p, text);
        try {
            p.read();
            return true;
        } catch (IllegalArgumentException e) {
            return false;
        }
    }
}
