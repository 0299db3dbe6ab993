/** Promises 4 and 5: which texts are programs, and where others are wrong. A bar stands ahead of the fault. */
public final class FaultTest {
    public static void main(String[] args) {
        words();
        numbers();
        rows();
        statements();
        values();
        tests();
        limits();
        rightTexts();
        Bench.finish("FaultTest");
    }

    private static void wrong(String marked) {
        Bench.wrong(marked);
    }

    private static void right(String text, int statements) {
        Bench.right(text, statements);
    }

    private static void words() {
        wrong("|whil");
        wrong("|whilea<b{}");
        wrong("|outa;");
        wrong("|i = 1;");
        wrong("|z = 1;");
        wrong("|ab = 1;");
        wrong("a = |ab;");
        wrong("a = |i;");
        wrong("a = |inn 1;");
        wrong("|else { }");
        wrong("|in 1;");
        wrong("a = 1; |array A 3;");
        wrong("|arrayb A 3;");
        wrong("|Out a;");
        wrong("if a < b { } |els { }");
        wrong("if a < b { } |elsec { }");
        wrong("while a < b { } |else { }");
        wrong("if a < b { } else { } |else { }");
        wrong("|\u0000");
        wrong("|\u00ff");
        wrong("a = 1;|\r");
    }

    private static void numbers() {
        wrong("a = |100;");
        wrong("a = |001;");
        wrong("a = |1234567890123;");
        wrong("a = |100");
        wrong("a = 12 |3;");
        wrong("a = b + |100;");
        wrong("a = -|-1;");
        wrong("a = -|b;");
        wrong("a = in |3;");
        wrong("a = in |10;");
        wrong("a = in |a;");
        wrong("if |100 < a { }");
        wrong("if a < |100 { }");
        wrong("array A |21;");
        wrong("array A |100;");
        wrong("array A |-1;");
        wrong("out |5;");
    }

    private static void rows() {
        wrong("array |D 1;");
        wrong("array |a 1;");
        wrong("array A 1; array |A 2;");
        wrong("array A |;");
        wrong("array A 1 |a = 1;");
        wrong("array A 1|");
        wrong("array|");
        wrong("array A|");
        wrong("|A[a] = b;");
        wrong("a = #|A;");
        wrong("a = |A[a];");
        wrong("if #|A < a { }");
        wrong("if a < #|A { }");
        wrong("array A 1; a = #|B;");
        wrong("array A 1; |B[a] = b;");
        wrong("array A 1; a = |C[b];");
        wrong("array A 1; a = #|a;");
        wrong("array A 1; |D[a] = b;");
    }

    private static void statements() {
        wrong("a|");
        wrong("a |+ 1;");
        wrong("a = 1|");
        wrong("a = 1 |}");
        wrong("|}");
        wrong("|{ }");
        wrong("|;");
        wrong("a = 1;|;");
        wrong("out|");
        wrong("out a|");
        wrong("out a|, b;");
        wrong("array A 1; A|");
        wrong("array A 1; A |(a) = b;");
        wrong("array A 1; A[|1] = b;");
        wrong("array A 1; A[a |+ 1] = b;");
        wrong("array A 1; A[a] |;");
        wrong("array A 1; A[a] = |1;");
        wrong("array A 1; A[a] = b|");
        wrong("array A 1; A |= b;");
        wrong("if a < b |out a;");
        wrong("if a < b { out a; |");
        wrong("if a < b { } else |out a;");
        wrong("if a < b { } else|");
        wrong("while a < b {|");
        wrong("while a < b { } |}");
        wrong("if a < b { }   |{ }");
    }

    private static void values() {
        wrong("a = |;");
        wrong("a = |");
        wrong("a = -|");
        wrong("a = b +|");
        wrong("a = b + |c;");
        wrong("a = b + |;");
        wrong("a = 1 |+ 2;");
        wrong("a = b + 1 |+ 2;");
        wrong("a = b |c;");
        wrong("a = in|");
        wrong("array A 1; a = #A |+ 1;");
        wrong("array A 1; a = A[b] |+ 1;");
        wrong("array A 1; a = A|;");
        wrong("array A 1; a = A[b|");
        wrong("array A 1; a = A[b|;");
        wrong("a = |(b);");
        wrong("a =|= b;");
    }

    private static void tests() {
        wrong("if|");
        wrong("if |-1 < a { }");
        wrong("if |{ }");
        wrong("if a|");
        wrong("if a |{ }");
        wrong("if a |> b { }");
        wrong("if a <|");
        wrong("if a < |= b { }");
        wrong("if a =|< b { }");
        wrong("if a =|= b { }");
        wrong("if a <=|= b { }");
        wrong("if a <|< b { }");
        wrong("if a < b |+ 1 { }");
        wrong("while |in 0 < b { }");
        wrong("while a < |in 0 { }");
        wrong("while a < b|");
    }

    private static void limits() {
        String forty = "a=1;".repeat(40);
        right(forty, 40);
        wrong(forty + "|b=1;");
        wrong(forty + "|while a<b{}");
        wrong(forty + "|A[a]=b;");
        wrong(forty + "|}");
        wrong(forty + "|;");
        right("if a<b{" + "a=1;".repeat(39) + "}", 40);
        right("if a<b{" + "a=1;".repeat(39) + "}else{}", 40);
        wrong("if a<b{" + "a=1;".repeat(39) + "}else{|a=1;}");
        wrong("if a<b{" + "a=1;".repeat(39) + "|out a;}");
        right("if a<b{".repeat(5) + "}".repeat(5), 5);
        wrong("if a<b{".repeat(5) + "if a<b|{" + "}".repeat(6));
        right("while a<b{".repeat(4) + "if a<b{}else{}" + "}".repeat(4), 5);
        wrong("while a<b{".repeat(5) + "if a<b |{}else{}" + "}".repeat(5));
        wrong("if a<b{".repeat(5) + "if a|{" + "}".repeat(6));
        right("if a<b{}else{if a<b{}else{if a<b{}else{if a<b{}else{if a<b{}else{}}}}}", 5);
        right("if a<b{}".repeat(40), 40);
        right(" ".repeat(396) + "a=1;", 1);
        wrong(" ".repeat(397) + "a=1|");
    }

    private static void rightTexts() {
        right("", 0);
        right(" \t\n ", 0);
        right("array A 0;", 0);
        right("array A 20;array B 5;array C 05;", 0);
        right("array C 1; array A 1; out a;", 1);
        right("arrayA0;a=#A;", 1);
        right("a\t=\n-\t5\n;\n", 1);
        right("a=-00;", 1);
        right("a = b+1; c = d - 99; e = f;", 3);
        right("a=in0;b=in 1;c=in\t02;", 3);
        right("array A 1; A [ a ] = b ; c = A\n[\td ] ; out\nc;", 3);
        right("if 1<2{}if 1<=a{}", 2);
        right("array A 3; if #A=#A{out a;}else{out b;}", 3);
        right("while a = b { while a<=b { out a ; } }", 3);
        right("if99<a{}while0=0{}", 2);
    }
}
