import java.util.List;

/** All promises: programs made at random, compared with the model; texts cut and spoilt at random. */
public final class ModelTest {
    private static final int PROGRAMS = 1500;
    private static final int NONE_READ = -2;
    private static long seed = 20261118;
    private static String text;

    public static void main(String[] args) {
        RowProver kept = new RowProver();
        for (int i = 0; i < PROGRAMS; i++) {
            Model model = new Generator().make();
            text = model.text.toString();
            if (text.length() <= 400 && model.all.size() <= 40) {
                Bench.tape(kept, text);
                int statements = NONE_READ;
                try {
                    statements = kept.read();
                } catch (IllegalArgumentException e) {
                    System.out.println("fault " + kept.fault());
                }
                same("read", statements, model.all.size());
                if (statements == model.all.size()) {
                    compare(kept, model);
                    compareRuns(kept, model);
                    if (i % 10 == 0) {
                        cut();
                        spoil();
                    }
                }
            }
        }
        Bench.finish("ModelTest");
    }

    static int random(int below) {
        seed = seed * 6364136223846793005L + 1442695040888963407L;
        return (int) ((seed >>> 33) % below);
    }

    private static void same(String what, int got, int due) {
        if (got != due) {
            Bench.same(what + " in: " + text, got, due);
        } else {
            Bench.same(what, got, due);
        }
    }

    private static int index(Model.Version v) {
        return v == null ? -1 : v.index;
    }

    private static int index(Model.Statement s) {
        return s == null ? -1 : s.index;
    }

    private static void compare(RowProver p, Model m) {
        same("versions", p.count(1), m.versions.size());
        same("checks", p.count(2), m.checks.size());
        same("loops", p.count(3), m.loops.size());
        for (Model.Statement s : m.all) {
            same("kind", p.statement(s.index, 0), "vroiw".indexOf(s.kind));
            int variable = s.kind == 'i' || s.kind == 'w' ? -1 : s.kind == 'r' ? s.looked : s.variable;
            same("variable", p.statement(s.index, 1), variable);
            same("check", p.statement(s.index, 2), s.check);
            same("loop", p.statement(s.index, 3), s.loop);
            same("loop around", p.statement(s.index, 4), s.loopAround == null ? -1 : s.loopAround.loop);
        }
        for (Model.Version v : m.versions) {
            same("version's variable", p.version(v.index, 0), v.variable);
            same("version's how", p.version(v.index, 1), v.how);
            same("version's statement", p.version(v.index, 2), index(v.statement));
            same("version's from", p.version(v.index, 3), index(v.from));
            same("version's other", p.version(v.index, 4), index(v.other));
            same("below " + v.index, p.below(v.index), v.below);
            for (int row = 0; row < 3; row++) {
                if (m.places[row] != Model.NONE) {
                    same("above " + row + " " + v.index, p.above(row, v.index), v.above[row]);
                }
            }
            same("stands for", p.stands(v.index, false), m.root(v).index);
            same("and n", p.stands(v.index, true), m.shift(v));
        }
        compareChecks(p, m);
    }

    private static void compareChecks(RowProver p, Model m) {
        int parts = 0;
        int whole = 0;
        int guarded = 0;
        int[] checks = new int[m.loops.size()];
        int[] asked = new int[m.loops.size()];
        for (Model.Statement s : m.checks) {
            int below = m.shown(s, false) ? 1 : 0;
            int above = m.shown(s, true) ? 1 : 0;
            parts += below + above;
            whole += below * above;
            int[] due = {s.index, s.row, s.looksAt.index, below, above, s.guard == null ? -1 : s.guard.loop,
                s.guard == null ? -1 : s.counted ? 1 : 0, m.root(s.looksAt).index, m.shift(s.looksAt)};
            for (int what = 0; what < due.length; what++) {
                same("check " + s.check + " " + what, p.check(s.check, what), due[what]);
            }
            if (s.guard != null) {
                guarded++;
                checks[s.guard.loop]++;
                asked[s.guard.loop] += 2 - below - above;
            }
            compareChain(p, m, s, false, below);
            compareChain(p, m, s, true, above);
            same("hangs " + s.check, p.hangs(s.check), m.hangs(s));
        }
        same("parts shown", p.count(4), parts);
        same("both shown", p.count(5), whole);
        same("guarded", p.count(6), guarded);
        for (Model.Statement l : m.loops) {
            int[] due = {l.index, l.loopAround == null ? -1 : l.loopAround.loop, checks[l.loop], l.meeting.size(),
                asked[l.loop]};
            for (int what = 0; what < due.length; what++) {
                same("loop " + l.loop + " " + what, p.loop(l.loop, what), due[what]);
            }
        }
    }

    private static void compareChain(RowProver p, Model m, Model.Statement s, boolean above, int shown) {
        if (shown == 0) {
            Bench.fails("a chain of nothing", IllegalStateException.class, () -> p.chain(s.check, above, 0));
            return;
        }
        List<Integer> chain = m.chain(s, above);
        for (int k = 0; k < chain.size(); k++) {
            same("chain " + s.check + " " + above + " " + k, p.chain(s.check, above, k), chain.get(k));
        }
        same("behind the chain", p.chain(s.check, above, chain.size()), -1);
    }

    private static void compareRuns(RowProver p, Model m) {
        int[] inputs = new int[3];
        int[] lengths = new int[3];
        for (int time = 0; time < 3; time++) {
            for (int i = 0; i < 3; i++) {
                inputs[i] = random(time == 0 ? 5 : 30) - (time == 2 ? 10 : 1);
                lengths[i] = random(time == 1 ? 41 : 8);
                p.input(i, inputs[i]);
                p.length(i, lengths[i]);
            }
            Model.Run[] runs = new Model.Run[3];
            for (int how = 0; how < 3; how++) {
                runs[how] = m.new Run(how, inputs, lengths);
                compareRun(p, m, runs[how]);
                bounded(m, runs[how]);
                same("all end alike", runs[how].ends, runs[0].ends);
                same("all fail alike", runs[how].failed, runs[0].failed);
                same("at the same step", runs[how].steps, runs[0].steps);
            }
            compareSaves(p, m, inputs, lengths);
        }
    }

    private static void compareRun(RowProver p, Model m, Model.Run run) {
        int[] due = {run.ends, run.failed, run.steps, run.outs.size(), run.asked, run.unasked, run.askedAhead};
        for (int what = 0; what < due.length; what++) {
            same("run " + run.how + " " + what, p.run(run.how, what), due[what]);
        }
        for (int k = 0; k < run.outs.size(); k++) {
            same("out " + k, p.out(run.how, k), run.outs.get(k));
        }
        for (int row = 0; row < 3; row++) {
            for (int j = 0; m.places[row] != Model.NONE && j < run.rows[row].length; j++) {
                same("place " + row + " " + j, p.place(run.how, row, j), run.rows[row][j]);
            }
        }
        for (int v = 0; v < run.was.length; v++) {
            same("was " + run.how + " " + v, p.was(run.how, v), run.was[v]);
        }
    }

    /** The bounds are true of all values that a run shows. */
    private static void bounded(Model m, Model.Run run) {
        for (Model.Version v : m.versions) {
            int was = run.was[v.index];
            if (was == 0) {
                continue;
            }
            same("above a bound below", v.below == Model.FAR || was >= v.below ? 1 : 0, 1);
            for (int row = 0; row < 3; row++) {
                if (m.places[row] != Model.NONE && v.above[row] != Model.FAR) {
                    same("below a bound above", was <= run.rows[row].length + v.above[row] ? 1 : 0, 1);
                }
            }
        }
    }

    private static void compareSaves(RowProver p, Model m, int[] inputs, int[] lengths) {
        int d = random(3);
        int low = random(30) - 15;
        int high = low + random(6);
        int best = Integer.MIN_VALUE;
        int with = 0;
        for (int v = low; v <= high; v++) {
            int[] tried = inputs.clone();
            tried[d] = v;
            int less = m.new Run(0, tried, lengths).asked - m.new Run(2, tried, lengths).asked;
            if (less > best) {
                best = less;
                with = v;
            }
        }
        same("saves", p.saves(d, low, high, true), best);
        same("saves with", p.saves(d, low, high, false), with);
        same("the input stays", p.input(d, inputs[d]), inputs[d]);
    }

    /** A text that is cut is right, or wrong at its end or at the word or number that was cut. */
    private static void cut() {
        RowProver p = new RowProver();
        for (int size = 0; size < text.length(); size++) {
            Bench.tape(p, text.substring(0, size));
            try {
                p.read();
                same("no fault", p.fault(), -1);
            } catch (IllegalArgumentException e) {
                int at = p.fault();
                boolean rest = at <= size;
                for (int i = at; rest && i < size; i++) {
                    rest = Character.isLetter(text.charAt(i));
                }
                same("cut at " + size + ", fault " + at, rest ? 1 : 0, 1);
            }
        }
    }

    /** Whatever stands in a text, reading it ends well or at a fault within it. */
    private static void spoil() {
        String signs = "abcdefghi ABCD0123456789[]{}=<#;+-";
        RowProver p = new RowProver();
        for (int time = 0; time < 100; time++) {
            StringBuilder spoilt = new StringBuilder(text);
            int at = random(text.length() + 1);
            int upTo = Math.min(text.length(), at + random(4));
            StringBuilder put = new StringBuilder();
            for (int i = random(3); i > 0; i--) {
                put.append(signs.charAt(random(signs.length())));
            }
            spoilt.replace(at, upTo, put.toString());
            if (spoilt.length() > 400) {
                continue;
            }
            Bench.tape(p, spoilt.toString());
            try {
                int statements = p.read();
                same("no fault", p.fault(), -1);
                same("statements", p.count(0), statements);
                for (int how = 0; how < 3; how++) {
                    same("alike", p.run(how, 2), p.run(0, 2));
                }
            } catch (IllegalArgumentException e) {
                same("a fault within", p.fault() >= at - 5 && p.fault() <= spoilt.length() ? 1 : 0, 1);
            }
        }
    }

    /** Makes programs that are likely to have checks worth a thought. */
    private static final class Generator {
        private final Model model = new Model();
        private final StringBuilder out = model.text;
        private int left = 4 + random(18);

        Model make() {
            for (int row = 0; row < 3; row++) {
                if (row == 0 || random(3) == 0) {
                    model.places[row] = random(8);
                    out.append("array ").append((char) ('A' + row)).append(' ').append(model.places[row]).append(';');
                }
            }
            block(model.program, 0, left);
            model.analyse();
            return model;
        }

        private void block(List<Model.Statement> block, int depth, int most) {
            for (int i = 0; i < most && left > 0 && out.length() < 340 - 10 * depth; i++) {
                left--;
                block.add(statement(depth));
            }
        }

        private int variable() {
            return random(random(3) == 0 ? 8 : 3);
        }

        private int row() {
            int row = random(3);
            return model.places[row] == Model.NONE ? 0 : row;
        }

        private Model.Statement statement(int depth) {
            Model.Statement s = new Model.Statement();
            int what = random(depth < 5 ? 12 : 8);
            if (what < 4) {
                value(s);
            } else if (what < 7) {
                element(s, what == 4, variable());
            } else if (what < 8) {
                s.kind = 'o';
                s.variable = variable();
                out.append("out ").append(letter(s.variable)).append(';');
            } else {
                s.kind = what < 10 ? 'w' : 'i';
                out.append(s.kind == 'w' ? "while " : "if ");
                test(s);
                out.append('{');
                boolean counts = s.kind == 'w' && random(2) == 0 && s.left.kind == 'v' && left > 2;
                if (counts) {
                    left -= 2;
                    s.block.add(lookingAt(s.left.number));
                }
                block(s.block, depth + 1, counts ? random(2) : 1 + random(4));
                if (counts) {
                    s.block.add(counting(s.left.number));
                }
                out.append('}');
                if (s.kind == 'i' && random(2) == 0) {
                    out.append("else{");
                    block(s.other, depth + 1, 1 + random(3));
                    out.append('}');
                }
            }
            return s;
        }

        private static char letter(int variable) {
            return (char) ('a' + variable);
        }

        private Model.Statement counting(int variable) {
            Model.Statement s = new Model.Statement();
            s.kind = 'v';
            s.variable = variable;
            s.value = new Model.Operand();
            s.value.kind = 'v';
            s.value.number = variable;
            s.value.plus = 1 + random(2);
            out.append(letter(variable)).append('=').append(letter(variable)).append('+').append(s.value.plus).append(';');
            return s;
        }

        private Model.Statement lookingAt(int variable) {
            Model.Statement s = new Model.Statement();
            element(s, random(2) == 0, variable);
            return s;
        }

        private void element(Model.Statement s, boolean put, int looked) {
            s.row = row();
            s.looked = looked;
            s.variable = variable();
            s.kind = put ? 'r' : 'v';
            String place = (char) ('A' + s.row) + "[" + letter(s.looked) + "]";
            s.value = new Model.Operand();
            s.value.kind = 'e';
            out.append(put ? place + "=" + letter(s.variable) + ";" : letter(s.variable) + "=" + place + ";");
        }

        private void value(Model.Statement s) {
            s.kind = 'v';
            s.variable = variable();
            s.value = new Model.Operand();
            out.append(letter(s.variable)).append(" = ");
            int what = random(8);
            if (what < 4) {
                s.value.kind = 'v';
                s.value.number = variable();
                s.value.plus = random(7) - 3;
                out.append(letter(s.value.number));
                if (s.value.plus != 0 || random(2) == 0) {
                    out.append(s.value.plus < 0 ? " - " : "+").append(Math.abs(s.value.plus));
                }
            } else if (what < 5) {
                s.value.kind = '#';
                s.value.number = row();
                out.append('#').append((char) ('A' + s.value.number));
            } else if (what < 6) {
                s.value.kind = 'i';
                s.value.number = random(3);
                out.append("in ").append(s.value.number);
            } else {
                s.value.kind = 'n';
                s.value.number = random(random(4) == 0 ? 100 : 6) * (random(4) == 0 ? -1 : 1);
                out.append(s.value.number < 0 ? "- " : "").append(Math.abs(s.value.number));
            }
            out.append(';');
        }

        private void test(Model.Statement s) {
            s.left = side(random(4) != 0);
            s.relation = random(2) == 0 ? "<" : random(3) == 0 ? "=" : "<=";
            out.append(s.relation);
            s.right = side(random(3) == 0);
        }

        private Model.Operand side(boolean varies) {
            Model.Operand o = new Model.Operand();
            if (varies) {
                o.kind = 'v';
                o.number = variable();
                out.append(letter(o.number));
            } else if (random(2) == 0) {
                o.kind = '#';
                o.number = row();
                out.append('#').append((char) ('A' + o.number));
            } else {
                o.kind = 'n';
                o.number = random(random(3) == 0 ? 100 : 9);
                out.append(o.number);
            }
            return o;
        }
    }
}
