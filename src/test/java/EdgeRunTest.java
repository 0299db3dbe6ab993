import java.util.NoSuchElementException;

/**
 * The edges of what versions stand for, of loops that guard checks, and of runs (promises 10, 12, 13 and 15 to 21): one
 * method for each sentence of the document that names one, which stands ahead of it.
 */
public final class EdgeRunTest {
    private static final int NONE = RowProver.NONE;

    public static void main(String[] args) {
        madeOtherwise();
        aPartNotShown();
        noLoopAround();
        outermost();
        madeAheadOfTheLoop();
        itselfAnd0OrMore();
        lessOrLessOrSame();
        leftSide();
        rightSide();
        guardedAtMost();
        fixedBelow();
        fixedAbove();
        countedBelow();
        countedAboveLess();
        countedAboveLessOrSame();
        tillOneIsNotSo();
        eachTimeComeTo();
        tillTheLoopIsLeft();
        othersAreNotAsked();
        nothingToAsk();
        testsInRuns();
        lengths();
        placesAtFirst();
        belowThenAbove();
        onlyPartsNotShown();
        endsBy300Steps();
        failsAtTheLastStep();
        roundsAheadOfTheStep();
        outs();
        places();
        wasLast();
        runsAnew();
        nothingBehindTheEnd();
        bothShown();
        saves();
        savesTheFirst();
        savesBelowNought();
        Bench.finish("EdgeRunTest");
    }

    private static void runs(RowProver p, int how, int... due) {
        for (int what = 0; what < due.length; what++) {
            Bench.same("run(" + how + ", " + what + ")", p.run(how, what), due[what]);
        }
    }

    private static void stands(RowProver p, int version, int other, int n) {
        Bench.same("stands(" + version + ", false)", p.stands(version, false), other);
        Bench.same("stands(" + version + ", true)", p.stands(version, true), n);
    }

    private static void guard(String text, int loop, int how) {
        RowProver p = Bench.told(text);
        Bench.same("guard in " + text, p.check(0, 5), loop);
        Bench.same("how in " + text, p.check(0, 6), how);
    }

    /** STANDS FOR: "through CHECKS, TESTS .., VARIABLE + or - NUMBER; till one that is made otherwise". */
    private static void madeOtherwise() {
        RowProver p = Bench.told("array A 1;a=5;b=#A;c=in 0;d=A[e];f=a-99;f=f+99;g=b;if g<1{h=d;}else{h=d;}a=h;");
        // a 8, b 9, c 10, check 11, d 12, f 13, f 14, g 15; g 16, h 17; g 18, h 19; joined h 20; a 21
        stands(p, 7, 7, 0);
        stands(p, 8, 8, 0);
        stands(p, 9, 9, 0);
        stands(p, 10, 10, 0);
        stands(p, 11, 4, 0);
        stands(p, 12, 12, 0);
        stands(p, 13, 8, -99);
        stands(p, 14, 8, 0);
        stands(p, 15, 9, 0);
        stands(p, 16, 9, 0);
        stands(p, 18, 9, 0);
        stands(p, 19, 12, 0);
        stands(p, 20, 20, 0);
        stands(p, 21, 20, 0);
        RowProver round = Bench.told("while a<1{a=a+0;}b=a-0;");
        stands(round, 8, 8, 0);
        stands(round, 9, 8, 0);
        stands(round, 10, 8, 0);
        stands(round, 11, 8, 0);
        stands(round, 12, 8, 0);
    }

    /** "GUARDED is a CHECK of which a PART is not SHOWN": one, the other, both; not if both are shown. */
    private static void aPartNotShown() {
        guard("array A 2;a=-1;while b<1{c=A[a];}", 0, 0);
        guard("array A 2;a=2;while b<1{c=A[a];}", 0, 0);
        guard("array A 2;a=in 0;while b<1{c=A[a];}", 0, 0);
        guard("array A 2;a=1;while b<1{c=A[a];}", NONE, NONE);
    }

    /** "by the outermost LOOP around it": none around it, none that is so. */
    private static void noLoopAround() {
        guard("array A 2;a=in 0;c=A[a];", NONE, NONE);
        guard("array A 2;a=in 0;while b<1{}c=A[a];", NONE, NONE);
        guard("array A 2;a=in 0;if b<1{c=A[a];}while b<1{}", NONE, NONE);
        guard("array A 2;while b<1{a=in 0;c=A[a];}", NONE, NONE);
    }

    /** "by the outermost LOOP around it, such that ..". */
    private static void outermost() {
        guard("array A 2;a=in 0;while b<1{while b<1{while b<1{c=A[a];}}}", 0, 0);
        guard("array A 2;while b<1{a=in 0;while b<1{while b<1{c=A[a];}}}", 1, 0);
        guard("array A 2;while b<1{while b<1{a=in 0;while b<1{c=A[a];}}}", 2, 0);
        guard("array A 2;while b<1{while b<1{while b<1{a=in 0;c=A[a];}}}", NONE, NONE);
        guard("array A 2;a=in 0;while b<1{while a<9{c=A[a];a=a+1;}}", 1, 1);
        guard("array A 2;a=in 0;while a<9{while b<1{c=A[a];}a=a+1;}", 0, 1);
        guard("array A 2;a=in 0;" + "while b<1{".repeat(5) + "c=A[a];" + "}".repeat(5), 0, 0);
        guard("array A 2;" + "while b<1{".repeat(4) + "a=in 0;while b<1{c=A[a];" + "}".repeat(5), 4, 0);
        // the outer one comes round otherwise, but is made ahead of the inner loop
        guard("array A 2;a=in 0;while a<9{while b<1{c=A[a];}a=a-1;}", 1, 0);
    }

    /** "a VERSION made ahead of that LOOP (FIXED), and n": the last one ahead, not the first one of the loop. */
    private static void madeAheadOfTheLoop() {
        guard("array A 2;a=in 0;while 1<2{c=A[a];}", 0, 0);
        guard("array A 2;c=0;a=in 0;while 1<2{c=A[a];}", 0, 0);
        guard("array A 2;a=in 0;while 1<2{c=A[a];a=in 1;}", NONE, NONE);
        guard("array A 2;a=in 0;while a<9{d=a-3;c=A[d];}", 0, 0);
        guard("array A 2;while 1<2{a=in 0;c=A[a];}", NONE, NONE);
        guard("array A 2;while b<1{a=in 0;c=A[a];}", NONE, NONE);
        guard("array A 2;if 1<2{a=in 0;}while 1<2{c=A[a];}", 0, 0);
    }

    private static void goesRound(String told, int loop, int how) {
        guard("array A 2;a=in 0;while a<9{c=A[a];" + told + "}", loop, how);
    }

    /** "or a ROUND one of that LOOP, and n, that comes from its BLOCK's end as itself and 0 or more". */
    private static void itselfAnd0OrMore() {
        goesRound("a=a+0;", 0, 1);
        goesRound("a=a;", 0, 1);
        goesRound("a=a+1;", 0, 1);
        goesRound("a=a+99;", 0, 1);
        goesRound("a=a-0;", 0, 1);
        goesRound("a=a-1;a=a+1;", 0, 1);
        goesRound("a=a-1;", NONE, NONE);
        goesRound("a=a+1;a=a-2;", NONE, NONE);
        goesRound("a=a-99;", NONE, NONE);
        goesRound("a=1;", NONE, NONE);
        goesRound("a=#A;", NONE, NONE);
        goesRound("a=A[b];", NONE, NONE);
        goesRound("a=b+1;", NONE, NONE);
        goesRound("if 1<2{a=a+1;}", NONE, NONE);
        goesRound("while b<1{a=a+1;}", NONE, NONE);
    }

    /** "is the left SIDE of the LOOP's TEST (< or <=)". */
    private static void lessOrLessOrSame() {
        guard("array A 2;a=in 0;while a<9{c=A[a];a=a+1;}", 0, 1);
        guard("array A 2;a=in 0;while a<=9{c=A[a];a=a+1;}", 0, 1);
        String same = "array A 2;a=in 0;while a=9{c=A[a];a=a+1;}";
        guard(same, NONE, NONE);
        Bench.same("above is not shown in " + same, Bench.told(same).check(0, 4), 0);
    }

    /** "is the left SIDE": not the right one, not both, not another one. */
    private static void leftSide() {
        guard("array A 2;a=in 0;while 9<a{c=A[a];a=a+1;}", NONE, NONE);
        guard("array A 2;a=in 0;while a<=a{c=A[a];a=a+1;}", NONE, NONE);
        guard("array A 2;a=in 0;while b<9{c=A[a];a=a+1;b=b+1;}", NONE, NONE);
        guard("array A 2;a=in 0;while #A<9{c=A[a];a=a+1;}", NONE, NONE);
    }

    /** "the right one being a NUMBER, a length, a VERSION made ahead of the LOOP (COUNTED)". */
    private static void rightSide() {
        guard("array A 2;a=in 0;while a<9{c=A[a];a=a+1;}", 0, 1);
        guard("array A 2;array B 1;a=in 0;while a<#B{c=A[a];a=a+1;}", 0, 1);
        guard("array A 2;a=in 0;while a<b{c=A[a];a=a+1;}", 0, 1);
        guard("array A 2;a=in 0;b=in 1;while a<b{c=A[a];a=a+1;}", 0, 1);
        guard("array A 2;array B 1;a=in 0;while a<b{c=A[a];c=B[b];a=a+1;}", 0, 1);
        guard("array A 2;a=in 0;while a<b{c=A[a];a=a+1;b=b+0;}", NONE, NONE);
        guard("array A 2;a=in 0;while a<c{c=A[a];a=a+1;}", NONE, NONE);
    }

    /** "PARTS that are ASKED ahead of it at most": those that are not SHOWN, of all it guards. */
    private static void guardedAtMost() {
        RowProver p = Bench.told("array A 2;a=in 0;d=-1;while b<1{c=A[a];c=A[a];while b<1{c=A[d];}}while b<1{}");
        Bench.same("checks that it guards", p.loop(0, 2), 2);
        Bench.same("parts", p.loop(0, 4), 3);
        Bench.same("checks that the inner one guards", p.loop(1, 2), 0);
        Bench.same("its parts", p.loop(1, 4), 0);
        Bench.same("checks that an empty one guards", p.loop(2, 2), 0);
        Bench.same("its parts", p.loop(2, 4), 0);
        Bench.same("guarded", p.count(6), 2);
    }

    /** The number of a, and what is due of how 2: unasked, asked ahead, asked. */
    private static void ahead(RowProver p, int a, int unasked, int asked, int all) {
        p.input(0, a);
        Bench.same("ended alike, with " + a, p.run(2, 0), p.run(0, 0));
        Bench.same("failed alike, with " + a, p.run(2, 1), p.run(0, 1));
        Bench.same("steps alike, with " + a, p.run(2, 2), p.run(0, 2));
        Bench.same("unasked, with " + a, p.run(2, 5), unasked);
        Bench.same("asked ahead, with " + a, p.run(2, 6), asked);
        Bench.same("asked, with " + a, p.run(2, 4), all);
    }

    /** FIXED: "as that is then, and n": below holds from 0 on. */
    private static void fixedBelow() {
        RowProver p = Bench.told("array A 9;a=in 0;while b<2{d=a-2;c=A[d];b=b+1;}");
        ahead(p, 2, 1, 2, 2);
        ahead(p, 3, 1, 2, 2);
        ahead(p, 1, 0, 1, 2);
        ahead(p, -99, 0, 1, 2);
    }

    /** FIXED: above holds till the length less 1; the length as it is told. */
    private static void fixedAbove() {
        RowProver p = Bench.told("array A 3;a=in 0;while b<2{d=a+2;c=A[d];b=b+1;}");
        ahead(p, 0, 1, 2, 2);
        ahead(p, 1, 0, 2, 4);
        ahead(p, 99, 0, 2, 4);
        p.length(0, 40);
        ahead(p, 37, 1, 2, 2);
        ahead(p, 38, 0, 2, 4);
        p.length(0, 2);
        ahead(p, 0, 1, 2, 2);
        ahead(p, 1, 0, 2, 4);
    }

    /** COUNTED: "below: as the ROUND one begins, and n". */
    private static void countedBelow() {
        RowProver p = Bench.told("array A 9;a=in 0;while a<9{d=a-1;c=A[d];a=a+1;}");
        ahead(p, 1, 1, 1, 1);
        ahead(p, 8, 1, 1, 1);
        ahead(p, 0, 0, 1, 2);
        RowProver q = Bench.told("array A 9;a=in 0;while a<9{a=a+1;d=a-1;c=A[d];}");
        ahead(q, 0, 1, 1, 1);
        ahead(q, -1, 0, 1, 2);
    }

    /** COUNTED: "above: the right SIDE, less 1 if <, and n". */
    private static void countedAboveLess() {
        RowProver p = Bench.told("array A 3;b=in 0;while a<b{d=a+1;c=A[d];a=a+1;}");
        ahead(p, 2, 1, 1, 1);
        ahead(p, 3, 0, 1, 4);
        ahead(p, 0, 1, 1, 1);
        ahead(p, -99, 1, 1, 1);
        RowProver q = Bench.told("array A 3;array B 0;while a<#B{c=A[a];a=a+1;}");
        q.length(1, 3);
        ahead(q, 0, 1, 1, 1);
        q.length(1, 4);
        ahead(q, 0, 0, 1, 5);
        RowProver r = Bench.told("array A 3;while a<4{c=A[a];a=a+1;}");
        ahead(r, 0, 0, 1, 5);
        r.length(0, 4);
        ahead(r, 0, 1, 1, 1);
    }

    /** COUNTED: "the right SIDE, less 1 if <": not, if <=. */
    private static void countedAboveLessOrSame() {
        RowProver p = Bench.told("array A 3;b=in 0;while a<=b{c=A[a];a=a+1;}");
        ahead(p, 2, 1, 1, 1);
        ahead(p, 3, 0, 1, 5);
        ahead(p, -1, 1, 1, 1);
        RowProver q = Bench.told("array A 3;while a<=3{c=A[a];a=a+1;}");
        ahead(q, 0, 0, 1, 5);
        q.length(0, 4);
        ahead(q, 0, 1, 1, 1);
    }

    /** "one behind another, below ahead of above, till one is not so". */
    private static void tillOneIsNotSo() {
        RowProver p = Bench.told("array A 3;array B 3;a=in 0;b=in 1;while d<1{c=A[a];c=B[b];d=d+1;}");
        int[][] due = {{0, 0, 1, 4}, {-1, 0, 0, 1}, {3, 0, 0, 2}, {0, -1, 0, 3}, {0, 3, 0, 4}, {-1, -1, 0, 1},
            {3, -1, 0, 2}, {2, 2, 1, 4}};
        for (int[] one : due) {
            p.input(1, one[1]);
            p.input(0, one[0]);
            Bench.same("unasked with " + one[0] + ", " + one[1], p.run(2, 5), one[2]);
            Bench.same("asked with " + one[0] + ", " + one[1], p.run(2, 6), one[3]);
        }
    }

    /** "(each time that it is come to)". */
    private static void eachTimeComeTo() {
        RowProver p = Bench.told("array A 3;a=in 0;while d<3{e=a;while e<2{c=A[e];e=e+1;}a=a-1;d=d+1;}");
        p.input(0, 2);
        // with 2, 1, 0: each time all hold
        Bench.same("unasked three times", p.run(2, 5), 3);
        Bench.same("asked ahead three times", p.run(2, 6), 3);
        p.input(0, 1);
        // with 1, 0, -1: the last time not
        Bench.same("unasked twice", p.run(2, 5), 2);
        Bench.same("asked ahead three times again", p.run(2, 6), 3);
        Bench.same("it fails", p.run(2, 0), 1);
        Bench.same("asked", p.run(2, 4), 3 + 1);
        RowProver never = Bench.told("array A 3;a=in 0;if 1<a{while b<1{c=A[a];b=b+1;}}");
        Bench.same("not come to", never.run(2, 6), 0);
    }

    /** "If all hold, the CHECKS are not asked till the LOOP is left." */
    private static void tillTheLoopIsLeft() {
        RowProver p = Bench.told("array A 2;array B 2;while b<2{a=B[b];a=a+1;d=0;while d<2{c=A[a];d=d+1;}b=b+1;}");
        // a is 1: all holds, nothing is asked within; then a is 2: above does not, and the check is asked where it stands
        runs(p, 2, 1, 5, 1 + 3 + 7 + 1 + 1 + 3 + 2, 0, 2 + 2 + 2, 1, 2 + 2);
        runs(p, 1, 1, 5, 18, 0, 2 * 2 + 2, 0, 0);
    }

    /** "PARTS that are not SHOWN of CHECKS that it guards": of no others in it. */
    private static void othersAreNotAsked() {
        RowProver p = Bench.told("array A 2;a=in 0;while b<2{c=A[a];d=in 1;e=0;while e<1{c=A[d];e=e+1;}c=A[c];b=b+1;}");
        // the outer loop guards A[a], the inner one A[d], none A[c]
        runs(p, 2, 0, NONE, 22, 0, 2 + 2 * 2 + 2 * 2, 3, 2 + 2 * 2);
        runs(p, 1, 0, NONE, 22, 0, 2 * 2 * 3, 0, 0);
        p.input(1, 2);
        runs(p, 2, 1, 6, 7, 0, 2 + 2 + 2, 1, 2 + 2);
    }

    /** A loop that guards no check is not asked ahead of, and so never went unasked. */
    private static void nothingToAsk() {
        RowProver p = Bench.told("array A 2;while b<2{c=A[d];b=b+1;}while 0<0{}");
        runs(p, 2, 0, NONE, 8, 0, 0, 0, 0);
    }

    /** "TEST: SIDE < SIDE | SIDE <= SIDE | SIDE = SIDE": one less, the same, one more. */
    private static void testsInRuns() {
        String[] relations = {"<", "<=", "="};
        int[][] holds = {{1, 0, 0}, {1, 1, 0}, {0, 1, 0}};
        for (int r = 0; r < 3; r++) {
            for (int a = 2; a <= 4; a++) {
                String[] tests = {"a" + relations[r] + "3", a + relations[r] + "3", "a" + relations[r] + "#A",
                    "a" + relations[r] + "b"};
                for (String test : tests) {
                    RowProver p = Bench.told("array A 3;a=" + a + ";b=3;if " + test + "{out a;}else{out b;out b;}");
                    Bench.same("outs of " + test + " with " + a, p.run(0, 3), holds[r][a - 2] == 1 ? 1 : 2);
                    RowProver q = Bench.told("array A 3;a=" + a + ";b=3;while " + test + "{out a;a=99;a=a;}");
                    boolean once = test.startsWith("a") && holds[r][a - 2] == 1;
                    int due = once ? 1 : holds[r][a - 2] == 1 ? 75 : 0;
                    Bench.same("rounds of " + test + " with " + a, q.run(0, 3), due);
                }
            }
        }
    }

    /** "lengths of the ROWS (each 0 at first; what the text says at least, if that is more ..)". */
    private static void lengths() {
        RowProver p = Bench.told("array A 3;array B 0;a=#A;b=#B;");
        int[][] due = {{0, 3, 0}, {2, 3, 2}, {3, 3, 3}, {4, 4, 4}, {40, 40, 40}, {0, 3, 0}};
        int before = 0;
        for (int[] one : due) {
            Bench.same("what A was told", p.length(0, one[0]), before);
            Bench.same("what B was told", p.length(1, one[0]), before);
            before = one[0];
            for (int how = 0; how < 3; how++) {
                Bench.same("#A of " + one[0], p.was(how, 8), one[1]);
                Bench.same("#B of " + one[0], p.was(how, 9), one[2]);
            }
        }
    }

    /** "a place j has j at first": in each run anew, in each row. */
    private static void placesAtFirst() {
        RowProver p = Bench.told("array A 3;array C 0;b=9;A[a]=b;a=2;A[a]=a;");
        p.length(2, 40);
        for (int how = 0; how < 3; how++) {
            Bench.same("what was put", p.place(how, 0, 0), 9);
            Bench.same("what was not", p.place(how, 0, 1), 1);
            Bench.same("what was put alike", p.place(how, 0, 2), 2);
            for (int j = 0; j < 40; j++) {
                Bench.same("place " + j, p.place(how, 2, j), j);
            }
        }
        Bench.tape(p, "array A 1;");
        p.read();
        Bench.same("with another program", p.place(0, 0, 0), 0);
    }

    /** "how 0: each CHECK asks below, then (if that holds) above". */
    private static void belowThenAbove() {
        RowProver p = Bench.told("array A 3;a=in 0;b=A[a];");
        int[][] due = {{-99, 1, 1}, {-1, 1, 1}, {0, 0, 2}, {2, 0, 2}, {3, 1, 2}, {99, 1, 2}};
        for (int[] one : due) {
            p.input(0, one[0]);
            for (int how = 0; how < 3; how++) {
                Bench.same("ends with " + one[0], p.run(how, 0), one[1]);
                Bench.same("asked with " + one[0], p.run(how, 4), one[2]);
                Bench.same("failed with " + one[0], p.run(how, 1), one[1] == 1 ? 1 : NONE);
            }
        }
        RowProver none = Bench.told("array A 0;b=A[a];");
        runs(none, 0, 1, 0, 1, 0, 2, 0, 0);
        none.length(0, 1);
        runs(none, 0, 0, NONE, 1, 0, 2, 0, 0);
    }

    /** "1: only PARTS that are not SHOWN". */
    private static void onlyPartsNotShown() {
        int[][] due = {{0, 2, 0}, {2, 2, 0}, {3, 2, 1}, {-1, 1, 1}};
        for (int[] one : due) {
            RowProver p = Bench.told("array A 3;a=" + (one[0] < 0 ? "-1" : String.valueOf(one[0])) + ";b=A[a];");
            Bench.same("asked of " + one[0], p.run(0, 4), one[1]);
            Bench.same("asked of " + one[0] + " in how 1", p.run(1, 4), one[2]);
            Bench.same("asked of " + one[0] + " in how 2", p.run(2, 4), one[2]);
        }
    }

    private static void steps(String text, int ends, int steps) {
        RowProver p = Bench.told(text);
        for (int how = 0; how < 3; how++) {
            Bench.same("ends of " + text, p.run(how, 0), ends);
            Bench.same("steps of " + text, p.run(how, 2), steps);
            Bench.same("failed in " + text, p.run(how, 1), NONE);
        }
    }

    /** "2 as 300 STEPS were done and another one would be": 299, 300 and 301 steps, the last one of each kind. */
    private static void endsBy300Steps() {
        String before = "array A 1;while a<99{a=a+1;b=a;}";
        steps("", 0, 0);
        steps("a=1;", 0, 1);
        steps(before + "c=1;", 0, 299);
        String[] last = {"c=1;", "A[c]=c;", "c=A[c];", "out c;", "if 1<2{}", "while 2<1{}", "if 1<2{}else{c=1;}"};
        for (String one : last) {
            steps(before + "c=0;" + one, 0, 300);
            steps(before + "c=0;c=0;" + one, 2, 300);
        }
        steps(before + "c=0;if 1<2{c=1;}", 2, 300);
        steps(before + "c=0;while c<1{c=1;}", 2, 300);
        steps(before + "while c<1{c=1;}", 2, 300);
        steps("while 1<2{}", 2, 300);
        steps("while a<99{a=a+1;b=a;if 1<2{}}", 2, 300);
    }

    /** "1 by a PART that does not hold": at the 300th step it still does; what would be the 301st is not begun. */
    private static void failsAtTheLastStep() {
        String before = "array A 1;while a<98{a=a+1;b=a;}";
        RowProver p = Bench.told(before + "c=1;c=1;c=1;c=1;c=A[c];");
        for (int how = 0; how < 3; how++) {
            runs(p, how, 1, 7, 300);
        }
        RowProver q = Bench.told(before + "c=1;c=1;c=1;c=1;c=1;c=A[c];");
        for (int how = 0; how < 3; how++) {
            runs(q, how, 2, NONE, 300, 0, 0, 0, 0);
        }
    }

    /** "ROUND VERSIONS are made ahead of that STEP": of one that is not done, too. */
    private static void roundsAheadOfTheStep() {
        // two steps a round: the 301st would be the test with a 150
        RowProver p = Bench.told("while 1<2{a=a+1;}");
        runs(p, 0, 2, NONE, 300);
        Bench.same("the round one", p.was(0, 8), 150);
        Bench.same("the told one", p.was(0, 9), 150);
        // three steps a round: the last one ends behind the 300th, and the test would be asked
        RowProver q = Bench.told("while 1<2{a=a+1;b=a;}");
        Bench.same("the round one", q.was(0, 8), 100);
        // 299 is the test with a 74 in a round of four; a = a + 1 is the 300th
        RowProver r = Bench.told("b=9;b=9;while 1<2{a=a+1;b=a;c=a;}");
        Bench.same("the round one", r.was(0, 10), 74);
        Bench.same("the told one", r.was(0, 13), 75);
    }

    /** "What was out k-th in a RUN": none, the first, the last, as many as 300 steps hold. */
    private static void outs() {
        RowProver p = Bench.told("while 1<2{" + "out a;".repeat(38) + "}");
        int most = 7 * 38 + 26;
        Bench.same("outs", p.run(0, 3), most);
        Bench.same("steps", p.run(0, 2), 300);
        Bench.same("the last", p.out(0, most - 1), 0);
        Bench.fails("behind the last", NoSuchElementException.class, () -> p.out(0, most));
        RowProver one = Bench.told("a=-99;a=a-99;out a;");
        Bench.same("the only one", one.out(2, 0), -198);
        Bench.fails("no second", NoSuchElementException.class, () -> one.out(2, 1));
        RowProver none = Bench.told("a=1;");
        Bench.same("no outs", none.run(1, 3), 0);
        Bench.fails("no first", NoSuchElementException.class, () -> none.out(1, 0));
    }

    /** "NoSuchElementException: the ROW was not told, or has no such place." */
    private static void places() {
        RowProver p = Bench.told("array A 0;array B 3;");
        p.length(1, 2);
        p.length(2, 9);
        for (int how = 0; how < 3; how++) {
            int which = how;
            Bench.fails("no place at all", NoSuchElementException.class, () -> p.place(which, 0, 0));
            Bench.same("the last place", p.place(how, 1, 2), 2);
            Bench.fails("behind the last place", NoSuchElementException.class, () -> p.place(which, 1, 3));
            Bench.fails("ahead of the first place", NoSuchElementException.class, () -> p.place(which, 1, -1));
            Bench.fails("far ahead", NoSuchElementException.class, () -> p.place(which, 1, Integer.MIN_VALUE));
            Bench.fails("far behind", NoSuchElementException.class, () -> p.place(which, 1, Integer.MAX_VALUE));
            Bench.fails("a row not told", NoSuchElementException.class, () -> p.place(which, 2, 0));
        }
        p.length(0, 40);
        Bench.same("the last place of 40", p.place(0, 0, 39), 39);
        Bench.fails("behind 40", NoSuchElementException.class, () -> p.place(0, 0, 40));
    }

    /** "What a VERSION was last in a RUN (0, if it was not made)". */
    private static void wasLast() {
        RowProver p = Bench.told("array A 1;if a<1{b=5;}else{b=6;}while b<8{b=b+1;}c=9;d=A[c];e=7;");
        // a 8, b 9; a 10, b 11; joined 12; round 13; 14, 15; 16; c 17; check 18, d 19; e 20
        int[] due = {0, 5, 0, 0, 5, 8, 7, 8, 8, 9, 0, 0, 0};
        for (int how = 0; how < 3; how++) {
            for (int i = 0; i < due.length; i++) {
                Bench.same("was(" + how + ", " + (8 + i) + ")", p.was(how, 8 + i), due[i]);
            }
        }
        p.length(0, 10);
        Bench.same("made in another run", p.was(0, 20), 7);
        p.length(0, 9);
        Bench.same("not made again", p.was(0, 20), 0);
        RowProver check = Bench.told("array A 5;a=4;b=A[a];a=2;A[a]=b;");
        int[] checked = {4, 4, 4, 2, 2};
        for (int i = 0; i < checked.length; i++) {
            Bench.same("check: was(0, " + (8 + i) + ")", check.was(0, 8 + i), checked[i]);
        }
        RowProver sides = Bench.told("a=3;b=4;if a<b{c=1;}else{c=2;}if b<a{c=3;}else{c=4;}while a<b{a=a+1;}");
        // a 8, b 9; 10, 11, c 12; 13, 14, c 15; c 16; 17, 18, c 19; 20, 21, c 22; c 23; round a 24; 25, 26, a 27; 28, 29
        int[] held = {3, 4, 3, 4, 1, 0, 0, 0, 1, 0, 0, 0, 4, 3, 4, 4, 4, 3, 4, 4, 4, 4};
        for (int how = 0; how < 3; how++) {
            for (int i = 0; i < held.length; i++) {
                Bench.same("sides: was(" + how + ", " + (8 + i) + ")", sides.was(how, 8 + i), held[i]);
            }
            Bench.same("the first one stays 0", sides.was(how, 0), 0);
        }
    }

    /** A RUN begins anew, whatever the one ahead of it has left: a LOOP that was not left, a ROW, what was out. */
    private static void runsAnew() {
        String text = "array A 2;a=in 0;b=1;while 0<b{c=A[a];out b;b=b+1;}";
        RowProver p = Bench.told(text);
        Bench.same("unasked", p.run(2, 5), 1);
        Bench.same("ended by its steps", p.run(2, 0), 2);
        for (int how = 0; how < 3; how++) {
            RowProver fresh = Bench.told(text);
            for (int what = 0; what < 7; what++) {
                int due = fresh.run(how, what);
                for (int before = 0; before < 3; before++) {
                    p.run(before, 0);
                    Bench.same("run(" + how + ", " + what + ") behind " + before, p.run(how, what), due);
                }
            }
            Bench.same("the first out", p.out(how, 0), 1);
            Bench.same("the last out", p.out(how, 73), 74);
        }
    }

    /** "It ENDS": what comes behind is not made and not asked. */
    private static void nothingBehindTheEnd() {
        RowProver p = Bench.told("array A 1;d=in 0;b=7;while 1<2{a=a+1;}while b<9{c=A[d];b=b+1;}if 1<2{e=1;}");
        for (int how = 0; how < 3; how++) {
            runs(p, how, 2, NONE, 300, 0, 0, 0, 0);
            for (int v = 12; v < p.count(1); v++) {
                Bench.same("was(" + how + ", " + v + ")", p.was(how, v), 0);
            }
        }
        RowProver joined = Bench.told("if 1<2{a=5;while 1<2{}}else{a=6;}");
        Bench.same("told", joined.was(0, 8), 5);
        Bench.same("not joined", joined.was(0, 10), 0);
        RowProver failed = Bench.told("array A 1;if 1<2{a=5;b=A[a];}while c<1{a=a+1;c=1;}");
        for (int how = 0; how < 3; how++) {
            runs(failed, how, 1, 2, 3, 0, how == 0 ? 2 : 1, 0, 0);
            for (int v = 9; v < failed.count(1); v++) {
                Bench.same("was(" + how + ", " + v + ") behind a failure", failed.was(how, v), 0);
            }
        }
    }

    /** "4 PARTS SHOWN, 5 CHECKS of which both are": one part alone, of either kind, is none. */
    private static void bothShown() {
        String[] places = {"-1", "2", "1", "in 0"};
        int[] parts = {1, 1, 2, 0};
        for (int i = 0; i < places.length; i++) {
            RowProver p = Bench.told("array A 2;a=" + places[i] + ";b=A[a];");
            Bench.same("parts shown of " + places[i], p.count(4), parts[i]);
            Bench.same("both shown of " + places[i], p.count(5), parts[i] / 2);
        }
        RowProver all = Bench.told("array A 2;a=-1;b=A[a];a=2;b=A[a];a=1;b=A[a];a=in 0;b=A[a];");
        Bench.same("parts shown", all.count(4), 4);
        Bench.same("both shown", all.count(5), 1);
    }

    /** "The INPUT d (others as they are) from low to high (-99 to 99, 20 apart at most)". */
    private static void saves() {
        RowProver p = Bench.told("array A 1;a=in 0;b=in 1;b=b-79;while c<b{d=A[a];c=c+1;}");
        Bench.same("none apart", p.saves(1, 99, 99, true), 2 * 20 - 2);
        Bench.same("none apart, with", p.saves(1, 99, 99, false), 99);
        Bench.same("20 apart", p.saves(1, 79, 99, true), 2 * 20 - 2);
        Bench.same("20 apart, with", p.saves(1, 79, 99, false), 99);
        Bench.same("the lowest", p.saves(0, -99, -99, false), -99);
        Bench.same("20 apart from the lowest", p.saves(0, -99, -79, false), -99);
        Bench.same("20 apart round nought", p.saves(0, -10, 10, false), -10);
        Bench.fails("21 apart", IllegalArgumentException.class, () -> p.saves(1, 78, 99, true));
        Bench.fails("-1 apart", IllegalArgumentException.class, () -> p.saves(1, 1, 0, true));
        Bench.fails("below -99", IllegalArgumentException.class, () -> p.saves(1, -100, -99, true));
        Bench.fails("above 99", IllegalArgumentException.class, () -> p.saves(1, 99, 100, true));
        Bench.same("others as they are", p.input(0, 0), 0);
        p.input(0, 1);
        Bench.same("others as they are now", p.saves(1, 82, 82, true), 2 - (1 + 1 + 1 + 1));
    }

    /** "the most that how 2 ASKED less than how 0 (most), or with which the first such is". */
    private static void savesTheFirst() {
        RowProver p = Bench.told("array A 3;a=in 0;while c<4{b=A[a];c=c+1;}");
        Bench.same("the most", p.saves(0, -2, 5, true), 8 - 2);
        Bench.same("the first such", p.saves(0, -2, 5, false), 0);
        Bench.same("the most from 1 on", p.saves(0, 1, 5, true), 8 - 2);
        Bench.same("the first such from 1 on", p.saves(0, 1, 5, false), 1);
        Bench.same("the most up to 0", p.saves(0, -20, 0, true), 8 - 2);
        Bench.same("the last is the first such", p.saves(0, -20, 0, false), 0);
        RowProver none = new RowProver();
        Bench.same("nothing to save", none.saves(2, -20, 0, true), 0);
        Bench.same("all are alike", none.saves(2, -20, 0, false), -20);
    }

    /** The most is below 0, if how 2 asks more each time. */
    private static void savesBelowNought() {
        RowProver p = Bench.told("array A 3;a=in 0;while c<4{b=A[a];c=c+1;}");
        Bench.same("one more each time", p.saves(0, -9, -1, true), -1);
        Bench.same("the first", p.saves(0, -9, -1, false), -9);
        Bench.same("two more each time", p.saves(0, 3, 9, true), -2);
        Bench.same("the first", p.saves(0, 3, 9, false), 3);
    }
}
