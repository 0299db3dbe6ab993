/**
 * The edges of a text (promises 4 and 5): one method for each sentence of the document's Terms that names one, which
 * stands ahead of it. A bar stands ahead of the fault of a wrong text.
 */
public final class EdgeTextTest {
    private static final String ROWS = "array A 1;array B 1;array C 1;";
    /** All places in which a VARIABLE may stand, each as *. */
    private static final String[] VARIABLE_PLACES = {"*=1;", "a=*;", "a=*+1;", "a=*-1;", "out *;", "A[*]=a;", "A[a]=*;",
        "a=A[*];", "if *<1{}", "if 1<*{}", "if *<=1{}", "if 1<=*{}", "while *=1{}", "while 1=*{}"};
    /** All places in which a NUMBER may stand, but for those with bounds of their own. */
    private static final String[] NUMBER_PLACES = {"a=*;", "a=-*;", "a=b+*;", "a=b-*;", "if *<a{}", "if a<*{}",
        "if *<=a{}", "if a<=*{}", "while *=a{}", "while a=*{}"};
    /** All places in which a ROW must have been told. */
    private static final String[] ROW_PLACES = {"a=#*;", "a=*[a];", "*[a]=a;", "if #*<1{}", "if 1<#*{}", "while #*=1{}",
        "while 1<=#*{}", "if 1<2{*[a]=a;}", "if 1<2{}else{a=*[a];}"};
    private static final String[] TOKENS = {"array", "A", "12", ";", "array", "C", "0", ";", "a", "=", "-", "5", ";",
        "b", "=", "a", "+", "7", ";", "b", "=", "a", "-", "7", ";", "c", "=", "#", "C", ";", "d", "=", "A", "[", "b",
        "]", ";", "e", "=", "in", "2", ";", "A", "[", "b", "]", "=", "c", ";", "out", "h", ";", "f", "=", "g", ";",
        "if", "a", "<", "3", "{", "h", "=", "1", ";", "}", "else", "{", "out", "a", ";", "}", "while", "#", "A", "<=",
        "b", "{", "if", "4", "=", "b", "{", "}", "out", "b", ";", "}", "if", "a", "=", "b", "{", "}"};

    public static void main(String[] args) {
        atMost400Bytes();
        noneOfBoth();
        rowsAheadOfStatements();
        variables();
        rows();
        toldOnceAtMost();
        placesOfRows();
        digits();
        blanks();
        noOtherBlanks();
        words();
        oneLetter();
        eachLetterOfWords();
        otherThings();
        wordsAtTheirFirstByte();
        inputs();
        nothingBetween();
        noTestOfOther();
        atMost40();
        the41st();
        no41stCanBegin();
        blocksWithinOneAnother();
        theSixthBlock();
        mustHaveBeenTold();
        moreMustCome();
        leftOut();
        noElse();
        mostChecks();
        mostLoops();
        Bench.finish("EdgeTextTest");
    }

    private static void wrongAt(String text, int at) {
        Bench.wrong(text.substring(0, at) + "|" + text.substring(at));
    }

    /** Puts one thing into a text's *; the text is wrong at its first byte. */
    private static void wrongThing(String rows, String text, String thing) {
        Bench.wrong(rows + text.replace("*", "|" + thing));
    }

    /** "THE PROGRAM is a text of at most 400 bytes". */
    private static void atMost400Bytes() {
        Bench.right(" ".repeat(396) + "a=1;", 1);
        Bench.right("a=1;" + " ".repeat(396), 1);
        Bench.wrong(" ".repeat(396) + "a=1|:");
        Bench.wrong(" ".repeat(397) + "a=1|");
        Bench.wrong(" ".repeat(398) + "a=|");
        Bench.wrong(" ".repeat(395) + "out a|");
        Bench.wrong(" ".repeat(395) + "if a<|");
        Bench.wrong(" ".repeat(394) + "if a<=|");
        Bench.wrong(" ".repeat(397) + "out|");
        Bench.wrong(" ".repeat(398) + "|ou");
        Bench.wrong("|" + ";".repeat(400));
        Bench.wrong("|" + "<".repeat(400));
        Bench.wrong("|" + "a".repeat(400));
        Bench.wrong("|" + "9".repeat(400));
        Bench.wrong("a=1;".repeat(40) + "|" + "a=1;".repeat(60));
        RowProver p = new RowProver();
        Bench.tape(p, " ".repeat(396) + "a=1;");
        Bench.same("nothing comes behind 400 bytes", p.feed(-1, -1, -1, -1, -1), RowProver.NONE);
        Bench.same("the 400 bytes are read", p.read(), 1);
    }

    /** "{ array ROW n ; } { STATEMENT }": none of both, one of both. */
    private static void noneOfBoth() {
        Bench.right("", 0);
        Bench.right(" ", 0);
        Bench.right("array B 3;", 0);
        Bench.right("out a;", 1);
        Bench.right("array B 3;out a;", 1);
        Bench.right(ROWS, 0);
        Bench.wrong("|;");
        Bench.wrong("array B 3;|;");
    }

    /** "{ array ROW n ; } { STATEMENT }": in that order. */
    private static void rowsAheadOfStatements() {
        Bench.wrong("out a;|array A 1;");
        Bench.wrong("array A 1;out a;|array B 1;");
        Bench.wrong("if 1<2{|array A 1;}");
        Bench.wrong("|A 1;");
    }

    /** "VARIABLES a to h". */
    private static void variables() {
        for (String place : VARIABLE_PLACES) {
            Bench.right(ROWS + place.replace("*", "a"), 1);
            Bench.right(ROWS + place.replace("*", "h"), 1);
            wrongThing(ROWS, place, "i");
            wrongThing(ROWS, place, "z");
            wrongThing(ROWS, place, "`");
            wrongThing(ROWS, place, "\u00e1");
        }
    }

    /** "ROWS A, B, C". */
    private static void rows() {
        for (String place : ROW_PLACES) {
            Bench.right(ROWS + place.replace("*", "A"), place.startsWith("if 1<2{") ? 2 : 1);
            Bench.right(ROWS + place.replace("*", "C"), place.startsWith("if 1<2{") ? 2 : 1);
            wrongThing(ROWS, place, "D");
            wrongThing(ROWS, place, "@");
            wrongThing(ROWS, place, "Z");
        }
        Bench.wrong("array |D 1;");
        Bench.wrong("array |@ 1;");
        Bench.wrong("array |a 1;");
        Bench.wrong("array A|B 1;");
    }

    /** "ROWS A, B, C (each told once at most ..)"; THE FAULT: "a ROW .. told twice, at it". */
    private static void toldOnceAtMost() {
        Bench.right("array C 1;array B 1;array A 1;", 0);
        for (char row = 'A'; row <= 'C'; row++) {
            Bench.wrong("array " + row + " 1;array |" + row + " 1;");
            Bench.wrong(ROWS + "array |" + row + " 1;");
        }
        Bench.wrong("array A 1;array B 1;array |A 2;array D 1;");
    }

    /** "n 0 to 20: how many places it has at least"; THE FAULT: "a NUMBER at its first byte, one .. out of bounds". */
    private static void placesOfRows() {
        for (String n : new String[] {"0", "00", "1", "01", "19", "20"}) {
            RowProver p = Bench.told("array B " + n + ";");
            Bench.same("places of array B " + n, p.count(9), Integer.parseInt(n));
        }
        for (String n : new String[] {"21", "22", "30", "99", "020", "000", "100", "-1"}) {
            Bench.wrong("array B |" + n + ";");
        }
    }

    /** "NUMBERS 1 or 2 digits"; THE FAULT: "a NUMBER at its first byte, one too long". */
    private static void digits() {
        for (String place : NUMBER_PLACES) {
            for (String number : new String[] {"0", "9", "00", "07", "10", "99"}) {
                Bench.right(place.replace("*", number), 1);
            }
            for (String number : new String[] {"000", "007", "100", "999", "0000000000", "4294967297"}) {
                wrongThing("", place, number);
            }
            wrongThing("", place, "/");
            wrongThing("", place, ":");
        }
        RowProver p = Bench.told("a=-99;b=99;c=07;d=-0;");
        Bench.same("-99", p.was(0, 8), -99);
        Bench.same("99", p.was(0, 9), 99);
        Bench.same("07", p.was(0, 10), 7);
        Bench.same("-0", p.was(0, 11), 0);
    }

    private static String joined(int tokens, String between) {
        StringBuilder text = new StringBuilder();
        for (int i = 0; i < tokens; i++) {
            text.append(i == 0 ? "" : between).append(TOKENS[i]);
        }
        return text.toString();
    }

    /** "BLANKS (9, 10, 32) may stand between all": one, more, at the ends, none where none is needed. */
    private static void blanks() {
        int statements = 16;
        for (String blank : new String[] {"\t", "\n", " "}) {
            Bench.right(joined(TOKENS.length, blank), statements);
            Bench.right(blank + joined(TOKENS.length, blank) + blank, statements);
        }
        Bench.right("  " + joined(TOKENS.length, " \n") + "\t\t", statements);
        Bench.right("arrayA12;arrayC0;a=-5;b=a+7;b=a-7;c=#C;d=A[b];e=in2;A[b]=c;out h;f=g;if a<3{h=1;}else{out a;}"
                + "while#A<=b{if4=b{}out b;}if a=b{}", statements);
    }

    /** "BLANKS (9, 10, 32)": no other bytes are. */
    private static void noOtherBlanks() {
        int[] others = {0, 1, 8, 11, 12, 13, 14, 31, 33, 46, 127, 128, 133, 160, 255};
        for (int other : others) {
            String sign = String.valueOf((char) other);
            Bench.wrong("|" + sign);
            Bench.wrong("a=1;|" + sign);
            Bench.wrong("a|" + sign + "=1;");
            Bench.wrong("a=|" + sign + "1;");
            Bench.wrong("a=1|" + sign + ";");
            Bench.wrong("array|" + sign + "A 1;");
            Bench.wrong("array A|" + sign + "1;");
            Bench.wrong("if a<b|" + sign + "{}");
        }
    }

    /** "words are as many small letters as stand there". */
    private static void words() {
        Bench.right("arrayA1;", 0);
        Bench.right("out\na;", 1);
        Bench.right("if1<a{}", 1);
        Bench.right("while1<2{}", 1);
        Bench.right("a=in0;", 1);
        Bench.right("if 1<2{}else{}", 1);
        Bench.wrong("|outa;");
        Bench.wrong("|ifa<b{}");
        Bench.wrong("|whilea<b{}");
        Bench.wrong("|arraya 1;");
        Bench.wrong("a=|ina;");
        Bench.wrong("if 1<2{}|elseout a;");
    }

    /** "a VARIABLE is one of one letter". */
    private static void oneLetter() {
        for (String place : VARIABLE_PLACES) {
            wrongThing(ROWS, place, "aa");
            wrongThing(ROWS, place, "ab");
            wrongThing(ROWS, place, "else");
        }
        Bench.wrong("a |b=1;");
        Bench.wrong("a|1=1;");
    }

    /** "words": those of the document alone, each letter of them. */
    private static void eachLetterOfWords() {
        String[] texts = {"|array A 1;", "|out a;", "|if 1<2{}", "if 1<2{}|else{}", "|while 1<2{}", "a=|in 1;"};
        for (String text : texts) {
            int from = text.indexOf('|');
            int to = from + 1;
            while (text.charAt(to) >= 'a' && text.charAt(to) <= 'z') {
                to++;
            }
            Bench.reads(text.replace("|", ""));
            for (int at = from + 1; at < to; at++) {
                Bench.wrong(text.substring(0, at) + "z" + text.substring(at + 1));
                Bench.wrong(text.substring(0, at + 1) + "z" + text.substring(at + 1));
            }
            Bench.wrong(text.substring(0, from + 1) + "z" + text.substring(from + 1));
            Bench.wrong(text.substring(0, from + 1) + (char) (text.charAt(from + 1) - 32) + text.substring(from + 2));
        }
        Bench.wrong("|az=1;");
        Bench.wrong("|za=1;");
    }

    /** THE FAULT: "the first byte with which no such text goes on": one kind of thing does not stand for another. */
    private static void otherThings() {
        Bench.wrong("a=|<=1;");
        Bench.wrong("a=|xx;");
        Bench.wrong("a=|=;");
        Bench.wrong("a|5;");
        Bench.wrong("a |xx 1;");
        Bench.wrong("a=b|5;");
        Bench.wrong("a=b|<=5;");
        Bench.wrong("if a |5 b{}");
        Bench.wrong("if a |xx b{}");
        Bench.wrong("if a |b{}");
        Bench.wrong("if |<= b{}");
        Bench.wrong("if |xx<b{}");
        Bench.wrong("if a<b|5}");
        Bench.wrong("if a<b{|5}");
        Bench.wrong("array |5 1;");
        Bench.wrong("array A |A;");
        Bench.wrong("array A |<=;");
        Bench.wrong("array A 1 |5;");
        Bench.wrong("a=in |in;");
        Bench.wrong("a=#|1;");
        Bench.wrong("a=#|#A;");
    }

    /** THE FAULT: "a word .. at its first byte". */
    private static void wordsAtTheirFirstByte() {
        Bench.wrong("a=1;|outt a;");
        Bench.wrong("a=1;|ou a;");
        Bench.wrong("a=1;|o");
        Bench.wrong("a=1;|ou");
        Bench.wrong("a=1;|whilst a<b{}");
        Bench.wrong("|arra A 1;");
        Bench.wrong("|arrays A 1;");
        Bench.wrong("a=1; |else{}");
        Bench.wrong("a=1; |in 0;");
        Bench.wrong("if 1<2{}|elseif 1<2{}");
        Bench.wrong("if 1<2{}else |if 1<2{}");
        Bench.wrong("if |in 0<1{}");
        Bench.wrong("out |out;");
        Bench.wrong("array |array;");
        Bench.wrong("a=|if;");
    }

    /** "in d (an INPUT, d 0 to 2)"; THE FAULT: "out of bounds". */
    private static void inputs() {
        RowProver p = Bench.told("a=in 0;b=in 1;c=in 2;");
        p.input(0, 5);
        p.input(1, 6);
        p.input(2, 7);
        Bench.same("in 0", p.was(0, 8), 5);
        Bench.same("in 1", p.was(0, 9), 6);
        Bench.same("in 2", p.was(0, 10), 7);
        for (String d : new String[] {"3", "9", "03", "10", "12", "20", "99", "000", "-1", "a"}) {
            Bench.wrong("a=in |" + d + ";");
        }
        Bench.wrong("a=in|;");
    }

    /** "SIDE <= SIDE (nothing between < and =)". */
    private static void nothingBetween() {
        Bench.right("if a<=b{}while 1<=a{}", 2);
        for (String blank : new String[] {" ", "\t", "\n", "  "}) {
            Bench.wrong("if a<" + blank + "|=b{}");
            Bench.wrong("while 1<" + blank + "|=a{}");
            Bench.right("if a" + blank + "<=" + blank + "b{}", 1);
        }
        Bench.wrong("if a=|<b{}");
        Bench.wrong("if a<=|=b{}");
        Bench.wrong("a|<=1;");
    }

    /** "TEST: SIDE < SIDE | SIDE <= SIDE | SIDE = SIDE. SIDE: VARIABLE | NUMBER | # ROW". */
    private static void noTestOfOther() {
        Bench.wrong("if a|>b{}");
        Bench.wrong("if a|{}");
        Bench.wrong("if |-1<a{}");
        Bench.wrong("if a<|-1{}");
        Bench.wrong("if a|+1<b{}");
        Bench.wrong(ROWS + "if |A[a]<b{}");
        Bench.wrong(ROWS + "if a<|A[a]{}");
        Bench.wrong("if |(a<b){}");
    }

    /** "At most 40 STATEMENTS". */
    private static void atMost40() {
        Bench.right("a=1;".repeat(40), 40);
        Bench.right("out a;".repeat(39) + "if 1<2{}else{}", 40);
        Bench.right("if 1<2{" + "a=1;".repeat(38) + "}else{a=1;}", 40);
        Bench.right("while 1<2{while 1<2{while 1<2{while 1<2{while 1<2{" + "a=1;".repeat(35) + "}}}}}", 40);
        RowProver p = Bench.told("a=1;".repeat(39) + "out h;");
        Bench.same("the last one's kind", p.statement(39, 0), 2);
        Bench.fails("no 41st", IndexOutOfBoundsException.class, () -> p.statement(40, 0));
    }

    /** THE FAULT: "a 41st STATEMENT at its first byte". */
    private static void the41st() {
        String forty = "array A 1;" + "a=1;".repeat(40);
        for (String next : new String[] {"b=1;", "h=1;", "A[a]=b;", "out a;", "if 1<2{}", "while 1<2{}"}) {
            Bench.wrong(forty + "|" + next);
            Bench.wrong(forty + " \n|" + next);
        }
        Bench.wrong("if 1<2{" + "a=1;".repeat(39) + "|a=1;}");
        Bench.wrong("if 1<2{" + "a=1;".repeat(39) + "}|a=1;");
        Bench.wrong("if 1<2{" + "a=1;".repeat(39) + "}else{|a=1;}");
        Bench.wrong("a=1;".repeat(39) + "while 1<2{|out a;}");
    }

    /** THE FAULT: ".. a 41st STATEMENT .., if one can begin there": else what is there goes on, or is wrong itself. */
    private static void no41stCanBegin() {
        String forty = "a=1;".repeat(40);
        Bench.right(forty + "  \n", 40);
        Bench.wrong(forty + "|}");
        Bench.wrong(forty + "|;");
        Bench.wrong(forty + "|D[a]=b;");
        Bench.wrong(forty + "|z=1;");
        Bench.wrong(forty + "|array A 1;");
        Bench.wrong(forty + "|else{}");
        Bench.right("if 1<2{" + "a=1;".repeat(39) + "}else{}", 40);
        Bench.wrong("if 1<2{" + "a=1;".repeat(39) + "|");
        Bench.wrong("a=1;".repeat(39) + "a=1|");
    }

    /** "5 BLOCKS within one another": of if, of else, of while; those behind one another do not count. */
    private static void blocksWithinOneAnother() {
        Bench.right("if a<b{".repeat(5) + "}".repeat(5), 5);
        Bench.right("while a<b{".repeat(5) + "}".repeat(5), 5);
        Bench.right("if a<b{}else{".repeat(5) + "}".repeat(5), 5);
        Bench.right("if a<b{while a<b{if a<b{}else{while a<b{if a<b{out a;}else{out b;}}}}}", 7);
        Bench.right("if a<b{}else{}".repeat(7) + "while a<b{}", 8);
        Bench.right("if a<b{".repeat(4) + "if a<b{}else{}while a<b{}if a<b{}" + "}".repeat(4), 7);
    }

    /** THE FAULT: "the { of a sixth BLOCK at it". */
    private static void theSixthBlock() {
        Bench.wrong("if a<b{".repeat(5) + "if a<b|{" + "}".repeat(6));
        Bench.wrong("while a<b{".repeat(5) + "while a<b |{" + "}".repeat(6));
        Bench.wrong("if a<b{}else{".repeat(5) + "if a<b\n|{");
        Bench.wrong("if a<b{".repeat(4) + "if a<b{}else{while a<b|{}}" + "}".repeat(4));
        Bench.wrong("if a<b{".repeat(5) + "if |{");
        Bench.wrong("if a<b{".repeat(5) + "if a<b|");
        Bench.wrong("if a<b{".repeat(5) + "if a<b |a=1;");
        Bench.right("if a<b{".repeat(5) + "out a;" + "}".repeat(5), 6);
    }

    /** "A ROW must have been told"; THE FAULT: "a ROW not told .. at it". */
    private static void mustHaveBeenTold() {
        for (String place : ROW_PLACES) {
            for (char row = 'A'; row <= 'C'; row++) {
                wrongThing("", place, String.valueOf(row));
                wrongThing(ROWS.replace("array " + row + " 1;", ""), place, String.valueOf(row));
            }
        }
    }

    /** THE FAULT: "the text's length, if more must come". */
    private static void moreMustCome() {
        int depth = 0;
        for (int tokens = 0; tokens <= TOKENS.length; tokens++) {
            String last = tokens == 0 ? ";" : TOKENS[tokens - 1];
            depth += last.equals("{") ? 1 : last.equals("}") ? -1 : 0;
            String text = joined(tokens, " ");
            boolean whole = depth == 0 && (last.equals(";") || last.equals("}"));
            for (String blanks : new String[] {"", " ", "\n\t "}) {
                if (whole) {
                    Bench.reads(text + blanks);
                } else {
                    wrongAt(text + blanks, text.length() + blanks.length());
                }
            }
        }
    }

    /** THE FAULT: "the first byte with which no such text goes on": where one thing is left out, the next one. */
    private static void leftOut() {
        String[] rows = {"array |1;", "array A |;", "array A 1 |out a;", "|A 1;"};
        String[] statements = {"|=1;", "a |1;", "a=|;", "a=1 |out a;", "a=-|;", "a=b+|;", "a=b-|;", "a=#|;", "a=in |;",
            "a=|[a];", "a=A|;", "a=A|a];", "a=A[|];", "a=A[a|;", "a=A[a] |out a;", "|[a]=b;", "A|=b;", "A|a]=b;",
            "A[|]=b;", "A[a|=b;", "A[a]|b;", "A[a]|;", "A[a]=|;", "A[a]=b |out a;", "out|;", "out a |out b;",
            "if |<b{}", "if a |b{}", "if a<|{}", "if a<b |}", "if a<b |out a;}", "if a<b{out a;|", "if #|<b{}",
            "if a<#|{}", "if |{}", "if a<b{}else |}", "if a<b{}else |out a;}", "if a<b{}else{out a;|", "|{}",
            "while |<b{}", "while a |b{}", "while a<=|{}", "while a=b |}", "while a<b |out a;}", "while a<b{out a;|"};
        for (String text : rows) {
            Bench.wrong(text);
        }
        for (String text : statements) {
            Bench.wrong(ROWS + text);
            Bench.wrong(ROWS + "out a; " + text);
        }
        Bench.wrong("a|<b{}");
    }

    /** "if TEST BLOCK [ else BLOCK ] | while TEST BLOCK": an else once at most, and of if alone. */
    private static void noElse() {
        Bench.right("if a<b{}", 1);
        Bench.right("if a<b{}else{}", 1);
        Bench.wrong("if a<b{}else{}|else{}");
        Bench.wrong("while a<b{}|else{}");
        Bench.wrong("|else{}");
        Bench.wrong("if a<b |else{}");
        Bench.wrong("if a<b{}out a;|else{}");
        Bench.wrong("if a<b|;");
        Bench.wrong("if a<b{}|;");
    }

    /** "CHECKS: ROW [ VARIABLE ] each, numbered from 0 on as they stand": none, 40. */
    private static void mostChecks() {
        RowProver p = Bench.told("array A 1;" + "a=A[a];".repeat(39) + "A[h]=h;");
        Bench.same("checks", p.count(2), 40);
        Bench.same("the first one's statement", p.check(0, 0), 0);
        Bench.same("the last one's statement", p.check(39, 0), 39);
        Bench.same("the last statement's check", p.statement(39, 2), 39);
        Bench.same("what the last one looks at", p.check(39, 2), 7);
        RowProver none = Bench.told("array A 1;a=#A;");
        Bench.same("no checks", none.count(2), 0);
    }

    /** "LOOPS: whiles, numbered from 0 on as they begin": none, as many as 400 bytes hold. */
    private static void mostLoops() {
        RowProver p = Bench.told("while 1<2{while 1<2{}}" + "while 1<2{}".repeat(34));
        Bench.same("loops", p.count(3), 36);
        Bench.same("the outer one begins first", p.loop(0, 0), 0);
        Bench.same("the inner one is the next", p.loop(1, 1), 0);
        Bench.same("the last one's statement", p.loop(35, 0), 35);
        Bench.same("the last statement's loop", p.statement(35, 3), 35);
        RowProver none = Bench.told("if 1<2{}");
        Bench.same("no loops", none.count(3), 0);
    }
}
