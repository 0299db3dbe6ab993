/**
 * The edges of versions, bounds, parts that are shown, chains and what hangs on checks (promises 7 to 11 and 14): one
 * method for each sentence of the document that names one, which stands ahead of it.
 */
public final class EdgeVersionTest {
    private static final int FAR = RowProver.FAR;
    private static final int NONE = RowProver.NONE;

    public static void main(String[] args) {
        atTheBeginning();
        valueBehindItsCheck();
        sidesOfOneVariable();
        sidesWithoutVariables();
        leftThenRight();
        noOtherBlock();
        toldAnewInOneOfBoth();
        othersWithin();
        withinFiveBlocks();
        goingRound();
        behindIf();
        behindWhile();
        numbersAbove();
        lengthsAbove();
        checksAbove();
        tests();
        sameThatDoesNotHold();
        farStaysFar();
        meeting();
        leastGoingRound();
        numbersBelow();
        shownBelow();
        shownAbove();
        chainEnds();
        chainTakesTheFirst();
        chainThatWasThereAlready();
        behindTheChain();
        hangsOnNothing();
        hangsOnOne();
        Bench.finish("EdgeVersionTest");
    }

    private static void version(RowProver p, int version, int... due) {
        for (int what = 0; what < due.length; what++) {
            Bench.same("version(" + version + ", " + what + ")", p.version(version, what), due[what]);
        }
    }

    private static void versions(String text, int due) {
        Bench.same("versions of " + text, Bench.told("array A 1;" + text).count(1), due);
    }

    /** Above a row, and below, of the versions from 8 on. */
    private static void above(String text, int row, int... due) {
        RowProver p = Bench.told(text);
        for (int i = 0; i < due.length; i++) {
            Bench.same("above(" + row + ", " + (8 + i) + ") of " + text, p.above(row, 8 + i), due[i]);
        }
    }

    private static void below(String text, int... due) {
        RowProver p = Bench.told(text);
        for (int i = 0; i < due.length; i++) {
            Bench.same("below(" + (8 + i) + ") of " + text, p.below(8 + i), due[i]);
        }
    }

    private static void chain(RowProver p, int check, boolean above, int... due) {
        for (int k = 0; k < due.length; k++) {
            Bench.same("chain(" + check + ", " + above + ", " + k + ")", p.chain(check, above, k), due[k]);
        }
        Bench.same("behind chain(" + check + ", " + above + ")", p.chain(check, above, due.length), NONE);
    }

    /** "0 to 7 of a to h at the beginning (each is 0)". */
    private static void atTheBeginning() {
        RowProver p = Bench.told("array A 20;array B 0;a=1;");
        for (int v = 0; v < 8; v++) {
            version(p, v, v, 0, NONE, NONE, NONE);
            Bench.same("above of 20 places", p.above(0, v), -20);
            Bench.same("above of no place", p.above(1, v), 0);
            Bench.same("below", p.below(v), 0);
            Bench.same("stands for itself", p.stands(v, false), v);
            Bench.same("and 0", p.stands(v, true), 0);
            Bench.same("is 0", p.was(0, v), 0);
        }
        version(p, 8, 0, 1, 0, NONE, NONE);
        Bench.fails("version 9", IndexOutOfBoundsException.class, () -> p.version(9, 0));
    }

    /** "VARIABLE = VALUE: one of it (behind a CHECK in VALUE)"; "A CHECK: one of its VARIABLE, behind it". */
    private static void valueBehindItsCheck() {
        RowProver p = Bench.told("array A 1;a=A[a];A[a]=a;");
        version(p, 8, 0, 2, 0, 0, NONE);
        version(p, 9, 0, 1, 0, NONE, NONE);
        version(p, 10, 0, 2, 1, 9, NONE);
        Bench.same("versions", p.count(1), 11);
        versions("out a;", 8);
    }

    /** "for the VARIABLES of its SIDES (.. none, if both are the same one)". */
    private static void sidesOfOneVariable() {
        versions("if a<a{}", 8);
        versions("if a<=a{}else{}", 8);
        versions("if a=a{}", 8);
        versions("while h<h{}", 8);
        versions("while h<=h{}", 8);
        versions("while h=h{}", 8);
        versions("if a<b{}", 12);
        versions("while a=b{}", 12);
    }

    /** "for the VARIABLES of its SIDES": a NUMBER and a length are none. */
    private static void sidesWithoutVariables() {
        versions("if 1<2{}", 8);
        versions("while #A<=#A{}", 8);
        versions("if #A=0{}else{}", 8);
        versions("if a<1{}", 10);
        versions("if 1<=a{}", 10);
        versions("while #A=a{}", 10);
    }

    /** "(left, then right ..)". */
    private static void leftThenRight() {
        RowProver p = Bench.told("if h<a{}while c=b{}");
        version(p, 8, 7, 3, 0, 7, NONE);
        version(p, 9, 0, 3, 0, 0, NONE);
        version(p, 10, 7, 4, 0, 7, NONE);
        version(p, 11, 0, 4, 0, 0, NONE);
        version(p, 12, 2, 3, 1, 2, NONE);
        version(p, 13, 1, 3, 1, 1, NONE);
        version(p, 14, 2, 4, 1, 2, NONE);
        version(p, 15, 1, 4, 1, 1, NONE);
    }

    /** "then its other BLOCK (an empty one, if none is told)". */
    private static void noOtherBlock() {
        String[] texts = {"if a<1{}", "if a<b{c=1;}", "if 1<a{a=a+1;b=A[a];}", "while a<3{if a=b{a=2;}a=a+1;}"};
        for (String text : texts) {
            String none = "array A 2;" + text;
            String empty = "array A 2;" + text.replaceFirst("if ([^}]*)}", "if $1}else{}");
            Bench.same(empty + " has an else", empty.contains("else{}"), true);
            Bench.same("no other block in " + none, Bench.picture(Bench.told(none)).equals(Bench.picture(Bench.told(empty))), true);
        }
        RowProver p = Bench.told("if a<1{b=5;}");
        version(p, 11, 1, 5, 0, 9, 1);
    }

    /** "behind all one of each VARIABLE that is told anew (VARIABLE = ..) in one of both, a to h". */
    private static void toldAnewInOneOfBoth() {
        versions("if 1<2{}else{}", 8);
        versions("if 1<2{A[a]=b;out a;}", 8 + 1);
        versions("if 1<2{a=1;}", 8 + 2);
        versions("if 1<2{}else{a=1;}", 8 + 2);
        versions("if 1<2{a=1;}else{a=2;}", 8 + 3);
        versions("if 1<2{a=1;a=2;}", 8 + 3);
        versions("if 1<2{a=1;}else{b=2;}", 8 + 4);
        versions("if 1<2{if 1<2{if 1<2{}else{a=1;}}}", 8 + 1 + 3);
        versions("if 1<2{while 1<2{a=1;}}", 8 + 1 + 1 + 1);
        versions("if 1<2{h=1;g=1;f=1;e=1;d=1;c=1;b=1;a=1;}", 8 + 16);
        RowProver p = Bench.told("if 1<2{h=1;}else{a=1;}");
        version(p, 10, 0, 5, 0, 0, 9);
        version(p, 11, 7, 5, 0, 8, 7);
        Bench.same("versions", p.count(1), 12);
    }

    /** "from the end of the BLOCK, from that of the other": also where there are others within. */
    private static void othersWithin() {
        RowProver p = Bench.told("if a<1{b=1;}else{if a<2{c=1;}else{b=2;}d=b;}e=b;f=c;g=a;");
        // a 8, b 9; a 10; a 11, c 12; a 13, b 14; b 15, c 16; d 17; b 18, c 19, d 20; e 21, f 22, g 23
        version(p, 10, 0, 4, 0, 0, NONE);
        version(p, 11, 0, 3, 2, 10, NONE);
        version(p, 13, 0, 4, 2, 10, NONE);
        version(p, 15, 1, 5, 2, 1, 14);
        version(p, 16, 2, 5, 2, 12, 2);
        version(p, 17, 3, 1, 5, 15, NONE);
        version(p, 18, 1, 5, 0, 9, 15);
        version(p, 19, 2, 5, 0, 2, 16);
        version(p, 20, 3, 5, 0, 3, 17);
        version(p, 21, 4, 1, 6, 18, NONE);
        version(p, 22, 5, 1, 7, 19, NONE);
        version(p, 23, 6, 1, 8, 0, NONE);
        Bench.same("versions", p.count(1), 24);
        RowProver first = Bench.told("if a<1{if a<2{c=1;}else{b=2;}d=b;}else{b=1;}e=b;f=c;g=a;");
        // a 8; a 9, c 10; a 11, b 12; b 13, c 14; d 15; a 16, b 17; b 18, c 19, d 20; e 21, f 22, g 23
        version(first, 11, 0, 4, 1, 8, NONE);
        version(first, 13, 1, 5, 1, 1, 12);
        version(first, 16, 0, 4, 0, 0, NONE);
        version(first, 18, 1, 5, 0, 13, 17);
        version(first, 19, 2, 5, 0, 14, 2);
        version(first, 20, 3, 5, 0, 15, 3);
        version(first, 23, 6, 1, 8, 0, NONE);
        RowProver loops = Bench.told("while a<1{while b<2{c=a;d=b;}e=b;f=a;}g=b;h=a;g=c;h=d;");
        // rounds c 8, d 9, e 10, f 11; a 12; rounds c 13, d 14; b 15, c 16, d 17; b 18; e 19, f 20; a 21; g 22, h 23
        version(loops, 8, 2, 6, 0, 2, 13);
        version(loops, 9, 3, 6, 0, 3, 14);
        version(loops, 13, 2, 6, 1, 8, 16);
        version(loops, 16, 2, 1, 2, 12, NONE);
        version(loops, 17, 3, 1, 3, 15, NONE);
        version(loops, 18, 1, 4, 1, 1, NONE);
        version(loops, 19, 4, 1, 4, 18, NONE);
        version(loops, 20, 5, 1, 5, 12, NONE);
        version(loops, 21, 0, 4, 0, 0, NONE);
        version(loops, 22, 6, 1, 6, 1, NONE);
        version(loops, 23, 7, 1, 7, 21, NONE);
        version(loops, 24, 6, 1, 8, 8, NONE);
        version(loops, 25, 7, 1, 9, 9, NONE);
    }

    /** "5 BLOCKS within one another": what the fifth one tells is told, goes out of all, and is run. */
    private static void withinFiveBlocks() {
        String[] kinds = {"if 1<2{", "if 2<1{}else{", "while a<1{"};
        for (int kind = 0; kind < kinds.length; kind++) {
            for (int last = 0; last < kinds.length; last++) {
                String text = "array A 1;" + kinds[kind].repeat(4) + kinds[last] + "c=A[b];a=1;" + "}".repeat(5);
                RowProver p = Bench.told(text);
                int told = 0;
                for (int v = 8; v < p.count(1); v++) {
                    boolean meets = p.version(v, 1) >= 5;
                    told += meets && p.version(v, 0) == 0 ? 1 : 0;
                    if (meets) {
                        Bench.same("the statement of " + v + " of " + text, p.version(v, 2) < 5, true);
                        Bench.same("the number of " + v, p.was(0, v), p.version(v, 0) == 0 ? 1 : 0);
                    }
                }
                Bench.same("versions of a that meet in " + text, told, 5);
                Bench.same("statements of " + text, p.count(0), 7);
                Bench.same("the check's statement", p.check(0, 0), 5);
                Bench.same("it is shown", p.check(0, 3), 1);
                Bench.same("asked", p.run(0, 4), 2);
                Bench.same("ends", p.run(0, 0), 0);
            }
        }
    }

    /** "while: one of each that is told anew in its BLOCK, a to h (ROUND ..)": none, all. */
    private static void goingRound() {
        versions("while 1<2{}", 8);
        versions("while 1<2{A[a]=b;out a;}", 8 + 1);
        versions("while 1<2{a=1;a=2;}", 8 + 1 + 2);
        versions("while 1<2{if 1<2{}else{a=1;}}", 8 + 1 + 1 + 1);
        versions("while 1<2{while 1<2{while 1<2{a=1;}}}", 8 + 3 + 1);
        RowProver p = Bench.told("while 1<2{h=1;g=1;f=1;e=1;d=1;c=1;b=1;a=1;}");
        for (int x = 0; x < 8; x++) {
            version(p, 8 + x, x, 6, 0, x, 23 - x);
        }
        Bench.same("its round ones", p.loop(0, 3), 8);
        Bench.same("none", Bench.told("while 1<2{}").loop(0, 3), 0);
    }

    /** "Behind if the VERSION of others is that ahead of it". */
    private static void behindIf() {
        RowProver p = Bench.told("array A 1;if a<b{A[c]=d;}else{A[c]=d;}e=a;f=b;g=c;");
        int last = p.count(1) - 1;
        version(p, last - 2, 4, 1, 3, 0, NONE);
        version(p, last - 1, 5, 1, 4, 1, NONE);
        version(p, last, 6, 1, 5, 2, NONE);
    }

    /** "behind while that ahead or, of those SIDES, the last". */
    private static void behindWhile() {
        RowProver p = Bench.told("array A 1;while a<b{A[c]=d;h=1;a=a+1;}d=c;e=a;f=b;g=h;");
        // rounds a 8, h 9; sides 10, 11; check 12, h 13, a 14; sides 15, 16
        version(p, 15, 0, 4, 0, 8, NONE);
        version(p, 16, 1, 4, 0, 1, NONE);
        version(p, 17, 3, 1, 4, 2, NONE);
        version(p, 18, 4, 1, 5, 15, NONE);
        version(p, 19, 5, 1, 6, 16, NONE);
        version(p, 20, 6, 1, 7, 9, NONE);
    }

    /** "NUMBER: that, less how many places the ROW has at least (likewise the first VERSIONS)". */
    private static void numbersAbove() {
        String values = "a=0;b=99;c=-99;d=20;";
        above("array A 0;" + values, 0, 0, 99, -99, 20);
        above("array A 20;" + values, 0, -20, 79, -119, 0);
        above("array A 1;array C 20;" + values, 2, -20, 79, -119, 0);
        Bench.same("the first ones", Bench.told("array C 7;").above(2, 7), -7);
        Bench.same("of no place", Bench.told("array C 0;").above(2, 0), 0);
    }

    /** "# of the same ROW: 0": of another one FAR; the number of places changes nothing. */
    private static void lengthsAbove() {
        String values = "a=#A;b=#B;c=a+99;d=a-99;";
        above("array A 0;array B 20;" + values, 0, 0, FAR, 99, -99);
        above("array A 20;array B 0;" + values, 0, 0, FAR, 99, -99);
        above("array A 20;array B 0;" + values, 1, FAR, 0, FAR, FAR);
    }

    /** "behind a CHECK of that ROW: -1": the least with the one ahead; of another ROW the one ahead alone. */
    private static void checksAbove() {
        // in, check, then what was looked at
        above("array A 3;array B 3;a=in 0;b=A[a];", 0, FAR, -1);
        above("array A 3;array B 3;a=in 0;b=A[a];", 1, FAR, FAR);
        above("array A 3;a=2;b=A[a];", 0, -1, -1);
        above("array A 3;a=1;b=A[a];", 0, -2, -2);
        above("array A 3;a=3;b=A[a];", 0, 0, -1);
        above("array A 0;b=A[a];", 0, -1);
    }

    /** "behind a TEST that holds (or does not): what it tells of the SIDES": above of 9 places and below, of a. */
    private static void test(String test, int heldAbove, int failedAbove, int heldBelow, int failedBelow) {
        for (String told : new String[] {"if " + test + "{}", "while " + test + "{}"}) {
            String text = "array A 9;a=in 0;b=5;" + told;
            RowProver p = Bench.told(text);
            boolean both = test.contains("b");
            int failed = both ? 12 : 11;
            int held = 10;
            if (both && test.startsWith("b")) {
                held++;
                failed++;
            }
            Bench.same("held, of " + text, p.version(held, 1), 3);
            Bench.same("not, of " + text, p.version(failed, 1), 4);
            Bench.same("above held of " + text, p.above(0, held), heldAbove);
            Bench.same("above not of " + text, p.above(0, failed), failedAbove);
            Bench.same("below held of " + text, p.below(held), heldBelow);
            Bench.same("below not of " + text, p.below(failed), failedBelow);
        }
    }

    /** "left < right: of left that of right and -1 (does not: of right that of left)" and the like. */
    private static void tests() {
        test("a<5", -5, FAR, FAR, 5);
        test("a<=5", -4, FAR, FAR, 6);
        test("5<a", FAR, -4, 6, FAR);
        test("5<=a", FAR, -5, 5, FAR);
        test("a=5", -4, FAR, 5, FAR);
        test("5=a", -4, FAR, 5, FAR);
        test("a<b", -5, FAR, FAR, 5);
        test("a<=b", -4, FAR, FAR, 6);
        test("b<a", FAR, -4, 6, FAR);
        test("b<=a", FAR, -5, 5, FAR);
        test("a=b", -4, FAR, 5, FAR);
        test("b=a", -4, FAR, 5, FAR);
        test("a<#A", -1, FAR, FAR, 9);
        test("a<=#A", 0, FAR, FAR, 10);
        test("#A<a", FAR, 0, 10, FAR);
        test("#A<=a", FAR, -1, 9, FAR);
        test("a=#A", 0, FAR, 9, FAR);
        test("a<0", -10, FAR, FAR, 0);
        test("a<=99", 90, FAR, FAR, 100);
    }

    /** "=: of each that of the other one" if it holds; "What is not told so is FAR". */
    private static void sameThatDoesNotHold() {
        String text = "array A 9;a=in 0;b=in 1;if a=b{}if a=3{if a=b{}}";
        // a 8, b 9; held 10, 11; not 12, 13; a held 14; then a 15, b 16; not 17, 18; a not 19
        above(text, 0, FAR, FAR, FAR, FAR, FAR, FAR, -6, -6, -6, -6, FAR, FAR);
        below(text, FAR, FAR, FAR, FAR, FAR, FAR, 3, 3, 3, 3, FAR, FAR);
    }

    /** "FAR, where none is enough": FAR and, or less, a NUMBER is FAR. */
    private static void farStaysFar() {
        above("array A 5;a=in 0;b=a-99;c=a+99;d=b+99;e=A[b];e=b;e=e-1;", 0, FAR, FAR, FAR, FAR, -1, FAR, -1, -2);
        below("array A 5;a=in 0;b=a-99;c=a+99;d=b+99;e=A[b];e=b;e=e-1;", FAR, FAR, FAR, FAR, 0, FAR, 0, -1);
        above("array A 5;a=in 0;if b<a{}if a<c{}", 0, FAR, -5, FAR, -5, -5, -6, -5, FAR, -5);
    }

    /** "JOINED, ROUND: the greater of both it is from"; BELOW: "the lesser of both": FAR, if one of them is. */
    private static void meeting() {
        String text = "array A 5;if 1<2{a=1;b=in 0;c=in 0;d=2;}else{a=3;b=4;c=in 1;d=2;}";
        // in the first block 8 to 11, in the other 12 to 15, joined 16 to 19
        above(text, 0, -4, FAR, FAR, -3, -2, -1, FAR, -3, -2, FAR, FAR, -3);
        below(text, 1, FAR, FAR, 2, 3, 4, FAR, 2, 1, FAR, FAR, 2);
        String round = "array A 5;a=3;b=3;c=3;d=in 0;while 1<2{a=1;b=4;c=in 1;d=1;}";
        above(round, 0, -2, -2, -2, FAR, -2, -1, FAR, FAR);
        below(round, 3, 3, 3, FAR, 1, 3, FAR, FAR);
    }

    /** "ABOVE .. are the least numbers by which all these hold; FAR, where none is enough", "that go round all loops". */
    private static void leastGoingRound() {
        above("array A 5;while c<9{a=a+0;b=b+1;d=d-1;}", 0, -5, FAR, -5);
        below("array A 5;while c<9{a=a+0;b=b+1;d=d-1;}", 0, 0, FAR);
        above("array A 5;while a<99{a=a+1;}", 0, 94, 93, 94, 94);
        below("array A 5;while 0<a{a=a-1;}", 0, 1, 0, 0);
        above("array A 5;while 1<2{while a<20{a=a+7;}}", 0, 21, 21, 14, 21, 21);
        below("array A 5;a=50;while 1<2{while 20<=a{a=a-7;}}", 50, 13, 13, 20, 13, 13);
        above("array A 5;while 1<2{b=a+1;a=b-1;}", 0, -5, -4, -4, -5);
        above("array A 5;while 1<2{b=a+2;a=b-1;}", 0, FAR, FAR);
        above("array A 5;while 1<2{a=a+7;b=b-7;}", 0, FAR, -5, FAR, -12);
        below("array A 5;while 1<2{a=a+7;b=b-7;}", 0, FAR, 7, FAR);
        below("array A 5;a=-99;while c<9{a=a-0;}", -99, -99, 0, -99, 9);
        above("array A 0;a=99;a=a+99;a=a+99;while 1<2{a=a+0;}", 0, 99, 198, 297, 297, 297);
        below("array A 0;a=-99;a=a-99;a=a-99;while 1<2{a=a-0;}", -99, -198, -297, -297, -297);
        above("array A 5;while 1<2{a=a+98;b=b-98;}", 0, FAR, -5, FAR, -103);
        below("array A 5;while 1<2{a=a+98;b=b-98;}", 0, FAR, 98, FAR);
    }

    /** BELOW: "NUMBER: that; # of a ROW: its places at least; behind a CHECK: 0". */
    private static void numbersBelow() {
        below("array A 0;array B 20;a=-99;b=99;c=0;d=#A;e=#B;", -99, 99, 0, 0, 20);
        below("array A 5;a=in 0;b=A[a];", FAR, 0);
        below("array A 5;a=-1;b=A[a];", -1, 0);
        below("array A 5;a=1;b=A[a];", 1, 1);
        below("array A 5;array B 3;a=#B;b=a+9;c=a-9;", 3, 12, -6);
    }

    private static void part(String text, boolean above, int due) {
        RowProver p = Bench.told(text);
        Bench.same("shown in " + text, p.check(0, above ? 4 : 3), due);
        Bench.same("the other part in " + text, p.count(4) - due, p.check(0, above ? 3 : 4));
    }

    /** "A PART of a CHECK is SHOWN: below, if BELOW of the VERSION it looks at is 0 or more". */
    private static void shownBelow() {
        part("array A 5;a=0;b=A[a];", false, 1);
        part("array A 5;a=-0;b=A[a];", false, 1);
        part("array A 5;a=-1;b=A[a];", false, 0);
        part("array A 5;b=A[a];", false, 1);
        part("array A 5;a=in 0;b=A[a];", false, 0);
        part("array A 0;a=#A;b=A[a];", false, 1);
        part("array A 0;a=#A;a=a-1;b=A[a];", false, 0);
        part("array A 1;a=#A;a=a-1;b=A[a];", false, 1);
    }

    /** "above, if ABOVE its ROW is -1 or less". */
    private static void shownAbove() {
        part("array A 5;a=4;b=A[a];", true, 1);
        part("array A 5;a=5;b=A[a];", true, 0);
        part("array A 0;b=A[a];", true, 0);
        part("array A 1;b=A[a];", true, 1);
        part("array A 0;a=-1;b=A[a];", true, 1);
        part("array A 5;a=in 0;b=A[a];", true, 0);
        part("array A 5;a=#A;b=A[a];", true, 0);
        part("array A 0;a=#A;a=a-1;b=A[a];", true, 1);
        part("array A 20;array B 5;a=#A;a=a-1;B[a]=a;", true, 0);
        part("array A 5;array B 20;a=in 0;if a<#A{B[a]=a;}", true, 0);
    }

    /** "till it comes from a length (1000), a NUMBER or the beginning (1001)". */
    private static void chainEnds() {
        RowProver beginning = Bench.told("array A 1;b=A[a];");
        chain(beginning, 0, true, 0, 1001);
        chain(beginning, 0, false, 0, 1001);
        RowProver number = Bench.told("array A 5;a=3;b=A[a];");
        chain(number, 0, true, 8, 1001);
        chain(number, 0, false, 8, 1001);
        RowProver length = Bench.told("array A 5;a=#A;a=a-5;b=A[a];");
        chain(length, 0, true, 9, 8, 1000);
        chain(length, 0, false, 9, 8, 1000);
        RowProver check = Bench.told("array A 5;a=in 0;b=A[a];b=A[a];");
        chain(check, 1, true, 9, 1000);
        chain(check, 1, false, 9, 1001);
        RowProver test = Bench.told("array A 5;a=in 0;if a<#A{if #A<=a{b=A[a];}}");
        chain(test, 0, true, 10, 9, 1000);
        chain(test, 0, false, 10, 1000);
        RowProver told = Bench.told("array A 5;a=in 0;if a<=4{if 0<=a{b=A[a];}}");
        chain(told, 0, true, 10, 9, 1001);
        chain(told, 0, false, 10, 1001);
    }

    /** "(of JOINED, ROUND: of two alike the first; of others: the first of: the one ahead ..; what the TEST .. tells)". */
    private static void chainTakesTheFirst() {
        RowProver joined = Bench.told("array A 5;if 1<2{a=2;}else{a=2;}b=A[a];");
        chain(joined, 0, true, 10, 8, 1001);
        chain(joined, 0, false, 10, 8, 1001);
        RowProver greater = Bench.told("array A 5;if 1<2{a=2;}else{a=3;}b=A[a];");
        chain(greater, 0, true, 10, 9, 1001);
        chain(greater, 0, false, 10, 8, 1001);
        RowProver round = Bench.told("array A 5;a=2;while 1<2{b=A[a];a=2;}");
        // a 8; rounds a 9, b 10; check 11, b 12; a 13
        chain(round, 0, true, 9, 8, 1001);
        chain(round, 0, false, 9, 8, 1001);
        RowProver further = Bench.told("array A 5;a=2;while 1<2{b=A[a];a=3;}");
        chain(further, 0, true, 9, 13, 1001);
        chain(further, 0, false, 9, 8, 1001);
        RowProver ahead = Bench.told("array A 5;a=4;c=0;if a<#A{if c<=a{b=A[a];}}");
        // a 8, c 9; a 10; c 11, a 12: ahead is as much as the length tells
        chain(ahead, 0, true, 12, 10, 8, 1001);
        chain(ahead, 0, false, 12, 10, 8, 1001);
        RowProver less = Bench.told("array A 5;a=5;c=6;if a<#A{if c<=a{b=A[a];}}");
        chain(less, 0, true, 12, 10, 1000);
        chain(less, 0, false, 12, 9, 1001);
        RowProver check = Bench.told("array A 5;a=4;b=A[a];b=A[a];c=0;b=A[c];b=A[c];");
        // a 8; check 9, b 10; check 11, b 12; c 13; check 14, b 15
        chain(check, 1, true, 9, 8, 1001);
        chain(check, 3, false, 14, 13, 1001);
    }

    /** "or to one that was there already (1002)". */
    private static void chainThatWasThereAlready() {
        RowProver up = Bench.told("array A 9;while c<2{while d<2{b=5;d=d+1;}e=A[b];c=c+1;}");
        // rounds b 8, c 9, d 10, e 11; c 12; rounds b 13, d 14; d 15; b 16, d 17; d 18; check 19
        chain(up, 0, true, 13, 8, 19, 1002);
        chain(up, 0, false, 13, 8, 1, 1001);
        RowProver down = Bench.told("array A 9;b=7;while c<2{while d<2{b=5;d=d+1;}e=A[b];c=c+1;}");
        chain(down, 0, true, 14, 9, 8, 1001);
        chain(down, 0, false, 14, 9, 20, 1002);
        Bench.same("far behind it", down.chain(0, false, Integer.MAX_VALUE), NONE);
    }

    /** "The k-th of the CHAIN ..; NONE behind it": and where there is no k-th below 0. */
    private static void behindTheChain() {
        RowProver p = Bench.told("array A 1;b=A[a];a=in 0;b=A[a];");
        int[] none = {2, 3, 100, 239, 240, 241, 1000, Integer.MAX_VALUE, -1, -2, Integer.MIN_VALUE};
        for (int k : none) {
            Bench.same("above, link " + k, p.chain(0, true, k), NONE);
            Bench.same("below, link " + k, p.chain(0, false, k), NONE);
            Bench.fails("not shown, link " + k, IllegalStateException.class, () -> p.chain(1, true, k));
        }
        Bench.same("the last", p.chain(0, true, 1), 1001);
        Bench.same("the first", p.chain(0, true, 0), 0);
    }

    private static void hangs(String text, int... due) {
        RowProver p = Bench.told(text);
        for (int c = 0; c < due.length; c++) {
            Bench.same("hangs(" + c + ") of " + text, p.hangs(c), due[c]);
        }
        Bench.same("checks of " + text, p.count(2), due.length);
    }

    /** "How many PARTS are SHOWN that would not be, if nothing were known behind that CHECK": none. */
    private static void hangsOnNothing() {
        hangs("array A 1;b=A[a];b=A[a];", 0, 0);
        hangs("array A 1;a=in 0;b=A[a];", 0);
        hangs("array A 1;a=in 0;b=A[a];a=in 0;b=A[a];", 0, 0);
        hangs("array A 1;a=in 0;if a<1{b=A[a];}else{b=A[a];}", 0, 0);
        // the second hangs on the first; the third would be shown by either
        hangs("array A 1;a=in 0;b=A[a];b=A[a];b=A[a];", 2, 0, 0);
    }

    /** "(its VERSION as the one ahead)": what is known ahead stays known. */
    private static void hangsOnOne() {
        hangs("array A 1;a=in 0;b=A[a];b=A[a];", 2, 0);
        hangs("array A 9;a=in 0;if a<5{b=A[a];b=A[a];}", 1, 0);
        hangs("array A 9;a=in 0;if 5<a{b=A[a];b=A[a];}", 1, 0);
        hangs("array A 9;array B 9;a=in 0;b=A[a];b=B[a];b=A[a];", 2, 0, 0);
        hangs("array A 9;array B 9;a=in 0;b=A[a];b=B[a];b=B[a];", 1, 1, 0);
        // round the loop the check tells of itself
        hangs("array A 9;a=5;while 1<2{b=A[a];}", 0);
        hangs("array A 9;array B 9;a=1;while 1<2{b=A[a];b=B[a];a=a-1;}", 1, 0);
        // the first one's parts hang on the second, round the loop
        hangs("array A 1;d=in 0;while 1<2{b=A[a];a=d;b=A[a];}", 0, 2);
        hangs("array A 1;d=in 0;while 1<2{b=A[a];a=d;b=A[d];d=in 1;}", 0, 0);
    }
}
