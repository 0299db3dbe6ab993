import java.nio.charset.StandardCharsets;

/** What all tests of the project share: texts for the tape, and answers compared with those that are due. */
final class Bench {
    private static int wrong;
    private static int asked;

    /** A call whose answer, or exception, is looked at. */
    interface Call {
        int answer();
    }

    private Bench() {
    }

    /** Puts a text on the tape, which must be empty. */
    static void tape(RowProver prover, String text) {
        byte[] bytes = text.getBytes(StandardCharsets.ISO_8859_1);
        for (int at = 0; at < bytes.length; at += 20) {
            int[] n = new int[5];
            for (int i = 0; i < 20; i++) {
                int b = at + i < bytes.length ? bytes[at + i] & 255 : 32;
                n[i / 4] = n[i / 4] << 8 | b;
            }
            prover.feed(n[0], n[1], n[2], n[3], n[4]);
        }
        same("the tape holds " + text, prover.end(bytes.length), true);
    }

    static RowProver told(String text) {
        RowProver prover = new RowProver();
        tape(prover, text);
        prover.read();
        return prover;
    }

    static void same(String what, int got, int due) {
        asked++;
        if (got != due) {
            wrong++;
            System.out.println(what + " answered " + got + ", due is " + due);
        }
    }

    static void same(String what, boolean got, boolean due) {
        same(what, got ? 1 : 0, due ? 1 : 0);
    }

    static void fails(String what, Class<? extends RuntimeException> due, Call call) {
        asked++;
        String got;
        try {
            got = String.valueOf(call.answer());
        } catch (RuntimeException e) {
            got = e.getClass().getName();
        }
        if (!got.equals(due.getName())) {
            wrong++;
            System.out.println(what + " answered " + got + ", due is " + due.getName());
        }
    }

    /** A text that is wrong at the bar; the program that was there stays. */
    static void wrong(String marked) {
        int due = marked.indexOf('|');
        String text = marked.substring(0, due) + marked.substring(due + 1);
        RowProver p = told("out a;");
        tape(p, text);
        fails("read of " + text, IllegalArgumentException.class, p::read);
        same("fault of " + text, p.fault(), due);
        same("statements behind " + text, p.count(0), 1);
    }

    /** A text that is right, with so many statements. */
    static void right(String text, int statements) {
        same("statements of " + text, reads(text), statements);
    }

    /** A text that is right; how many statements it has. */
    static int reads(String text) {
        RowProver p = new RowProver();
        tape(p, text);
        int got = -2;
        try {
            got = p.read();
        } catch (IllegalArgumentException e) {
            System.out.println("wrong at " + p.fault());
        }
        same("fault of " + text, p.fault(), RowProver.NONE);
        same("statements of " + text, p.count(0), got);
        return got;
    }

    /** All that an object answers of its program, told as a text; some 20 calls a version. */
    static String picture(RowProver p) {
        StringBuilder all = new StringBuilder();
        for (int what = 0; what < 11; what++) {
            all.append(p.count(what)).append(' ');
        }
        for (int s = 0; s < p.count(0); s++) {
            for (int what = 0; what < 5; what++) {
                all.append(p.statement(s, what)).append(' ');
            }
        }
        for (int v = 0; v < p.count(1); v++) {
            for (int what = 0; what < 5; what++) {
                all.append(p.version(v, what)).append(' ');
            }
            all.append(p.stands(v, false)).append(' ').append(p.stands(v, true)).append(' ').append(p.below(v));
            for (int row = 0; row < 3; row++) {
                all.append(' ').append(p.count(8 + row) < 0 ? 0 : p.above(row, v)).append(' ').append(p.was(row, v));
            }
        }
        for (int c = 0; c < p.count(2); c++) {
            for (int what = 0; what < 9; what++) {
                all.append(' ').append(p.check(c, what));
            }
            all.append(' ').append(p.hangs(c));
        }
        for (int l = 0; l < p.count(3); l++) {
            for (int what = 0; what < 5; what++) {
                all.append(' ').append(p.loop(l, what));
            }
        }
        for (int how = 0; how < 3; how++) {
            for (int what = 0; what < 7; what++) {
                all.append(' ').append(p.run(how, what));
            }
        }
        return all.toString();
    }

    static void finish(String name) {
        System.out.println(name + ": " + asked + " answers, " + wrong + " wrong");
        if (wrong > 0) {
            System.exit(1);
        }
    }
}
