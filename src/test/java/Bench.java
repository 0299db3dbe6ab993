import java.nio.charset.StandardCharsets;

/** What all tests of the project share: texts for the tape, and answers compared with those that are due. */
final class Bench {
    private static int wrong;
    private static int asked;

    /** A call whose answer, or exception, is looked at. */
    interface Call {
        int answer();
    }

    private Bench() {
    }

    /** Puts a text on the tape, which must be empty. */
    static void tape(RowProver prover, String text) {
        byte[] bytes = text.getBytes(StandardCharsets.ISO_8859_1);
        for (int at = 0; at < bytes.length; at += 20) {
            int[] n = new int[5];
            for (int i = 0; i < 20; i++) {
                int b = at + i < bytes.length ? bytes[at + i] & 255 : 32;
                n[i / 4] = n[i / 4] << 8 | b;
            }
            prover.feed(n[0], n[1], n[2], n[3], n[4]);
        }
        prover.end(bytes.length);
    }

    static RowProver told(String text) {
        RowProver prover = new RowProver();
        tape(prover, text);
        prover.read();
        return prover;
    }

    static void same(String what, int got, int due) {
        asked++;
        if (got != due) {
            wrong++;
            System.out.println(what + " answered " + got + ", due is " + due);
        }
    }

    static void same(String what, boolean got, boolean due) {
        same(what, got ? 1 : 0, due ? 1 : 0);
    }

    static void fails(String what, Class<? extends RuntimeException> due, Call call) {
        asked++;
        String got;
        try {
            got = String.valueOf(call.answer());
        } catch (RuntimeException e) {
            got = e.getClass().getName();
        }
        if (!got.equals(due.getName())) {
            wrong++;
            System.out.println(what + " answered " + got + ", due is " + due.getName());
        }
    }

    static void finish(String name) {
        System.out.println(name + ": " + asked + " answers, " + wrong + " wrong");
        if (wrong > 0) {
            System.exit(1);
        }
    }
}
