import java.util.ArrayList;
import java.util.List;

/**
 * The document told once more, in the plainest way and without a thought for speed: programs as trees that are made
 * at random, their versions, bounds, guards and runs. ModelTest compares RowProver with it.
 */
final class Model {
    static final int NONE = -1;
    static final int FAR = 99999;
    static final int VALUE = 1;
    static final int CHECK = 2;
    static final int HOLDS = 3;
    static final int FAILS = 4;
    static final int JOINED = 5;
    static final int ROUND = 6;
    /** No finite bound of the small programs that are made here comes near it. */
    private static final int ENOUGH = 2500;

    /** A number, the length of a row, or a variable (kind 'n', '#', 'v'), as a SIDE or a VALUE. */
    static final class Operand {
        char kind;
        int number;
        int plus;
    }

    static final class Statement {
        /** 'v' VARIABLE = VALUE, 'r' ROW [..] = .., 'o' out, 'i' if, 'w' while. */
        char kind;
        int index;
        int variable;
        Operand value;
        int row = NONE;
        int looked;
        String relation;
        Operand left;
        Operand right;
        List<Statement> block = new ArrayList<>();
        List<Statement> other = new ArrayList<>();
        boolean hasElse;
        Statement loopAround;
        int check = NONE;
        int loop = NONE;
        Version looksAt;
        Version behind;
        Version valueVersion;
        Version leftVersion;
        Version rightVersion;
        List<Version> meeting = new ArrayList<>();
        List<Version> held = new ArrayList<>();
        List<Version> failed = new ArrayList<>();
        int firstVersion;
        Statement guard;
        boolean counted;
    }

    /** One way by which a bound is known: a version, a number or a row's length, and a number more. */
    static final class Way {
        Version version;
        int number;
        int row = NONE;
        int plus;
    }

    static final class Version {
        int index;
        int variable;
        int how;
        Statement statement;
        Version from;
        Version other;
        int plus;
        List<Way> up = new ArrayList<>();
        List<Way> down = new ArrayList<>();
        int[] above = new int[3];
        int below;

        boolean meets() {
            return how == JOINED || how == ROUND;
        }
    }

    final int[] places = {NONE, NONE, NONE};
    final List<Statement> program = new ArrayList<>();
    final List<Statement> all = new ArrayList<>();
    final List<Statement> checks = new ArrayList<>();
    final List<Statement> loops = new ArrayList<>();
    final List<Version> versions = new ArrayList<>();
    final StringBuilder text = new StringBuilder();

    // ---- versions ----

    void analyse() {
        number(program, null);
        Version[] now = new Version[8];
        for (int x = 0; x < 8; x++) {
            now[x] = version(x, 0, null);
            now[x].up.add(numberWay(0));
            now[x].down.add(numberWay(0));
        }
        walk(program, now);
        bounds(null);
        guards();
    }

    private void number(List<Statement> block, Statement loop) {
        for (Statement s : block) {
            s.index = all.size();
            s.loopAround = loop;
            all.add(s);
            if (s.row != NONE) {
                s.check = checks.size();
                checks.add(s);
            }
            if (s.kind == 'w') {
                s.loop = loops.size();
                loops.add(s);
            }
            number(s.block, s.kind == 'w' ? s : loop);
            number(s.other, loop);
        }
    }

    private Version version(int variable, int how, Statement s) {
        Version v = new Version();
        v.index = versions.size();
        v.variable = variable;
        v.how = how;
        v.statement = s;
        versions.add(v);
        return v;
    }

    private static Way numberWay(int number) {
        Way w = new Way();
        w.number = number;
        return w;
    }

    private static Way operandWay(Operand operand, Version looked, int plus) {
        Way w = new Way();
        w.plus = plus;
        if (operand.kind == 'v') {
            w.version = looked;
        } else if (operand.kind == '#') {
            w.row = operand.number;
        } else {
            w.number = operand.number;
        }
        return w;
    }

    private static Way aheadWay(Version ahead, int plus) {
        Way w = new Way();
        w.version = ahead;
        w.plus = plus;
        return w;
    }

    private static void anew(List<Statement> block, boolean[] told) {
        for (Statement s : block) {
            if (s.kind == 'v') {
                told[s.variable] = true;
            }
            anew(s.block, told);
            anew(s.other, told);
        }
    }

    private void walk(List<Statement> block, Version[] now) {
        for (Statement s : block) {
            if (s.row != NONE) {
                s.looksAt = now[s.looked];
                s.behind = ahead(s.looked, CHECK, s, now[s.looked]);
                Way length = new Way();
                length.row = s.row;
                length.plus = -1;
                s.behind.up.add(length);
                s.behind.down.add(numberWay(0));
                now[s.looked] = s.behind;
            }
            if (s.kind == 'v') {
                walkValue(s, now);
            } else if (s.kind == 'i') {
                walkIf(s, now);
            } else if (s.kind == 'w') {
                walkWhile(s, now);
            }
        }
    }

    private Version ahead(int variable, int how, Statement s, Version from) {
        Version v = version(variable, how, s);
        v.from = from;
        v.up.add(aheadWay(from, 0));
        v.down.add(aheadWay(from, 0));
        return v;
    }

    private void walkValue(Statement s, Version[] now) {
        Version v = version(s.variable, VALUE, s);
        if (s.value.kind == 'v') {
            v.from = now[s.value.number];
            v.plus = s.value.plus;
            v.up.add(aheadWay(v.from, v.plus));
            v.down.add(aheadWay(v.from, v.plus));
        } else if (s.value.kind == 'n' || s.value.kind == '#') {
            v.up.add(operandWay(s.value, null, 0));
            v.down.add(operandWay(s.value, null, 0));
        }
        s.valueVersion = v;
        now[s.variable] = v;
    }

    private void walkIf(Statement s, Version[] now) {
        boolean[] told = new boolean[8];
        anew(s.block, told);
        anew(s.other, told);
        Version[] first = now.clone();
        Version[] second = now.clone();
        look(s, now);
        sides(s, first, true);
        walk(s.block, first);
        sides(s, second, false);
        walk(s.other, second);
        for (int x = 0; x < 8; x++) {
            if (told[x]) {
                Version v = version(x, JOINED, s);
                v.from = first[x];
                v.other = second[x];
                s.meeting.add(v);
                now[x] = v;
            }
        }
    }

    private void walkWhile(Statement s, Version[] now) {
        boolean[] told = new boolean[8];
        anew(s.block, told);
        s.firstVersion = versions.size();
        for (int x = 0; x < 8; x++) {
            if (told[x]) {
                Version v = version(x, ROUND, s);
                v.from = now[x];
                s.meeting.add(v);
                now[x] = v;
            }
        }
        look(s, now);
        Version[] inside = now.clone();
        sides(s, inside, true);
        walk(s.block, inside);
        for (Version v : s.meeting) {
            v.other = inside[v.variable];
        }
        sides(s, now, false);
    }

    private static void look(Statement s, Version[] now) {
        s.leftVersion = s.left.kind == 'v' ? now[s.left.number] : null;
        s.rightVersion = s.right.kind == 'v' ? now[s.right.number] : null;
    }

    private void sides(Statement s, Version[] now, boolean holds) {
        if (s.leftVersion != null && s.leftVersion == s.rightVersion) {
            return;
        }
        int how = holds ? HOLDS : FAILS;
        List<Version> made = holds ? s.held : s.failed;
        if (s.leftVersion != null) {
            Version v = ahead(s.left.number, how, s, s.leftVersion);
            if (s.relation.equals("<") && holds) {
                v.up.add(operandWay(s.right, s.rightVersion, -1));
            } else if (s.relation.equals("<")) {
                v.down.add(operandWay(s.right, s.rightVersion, 0));
            } else if (s.relation.equals("<=") && holds) {
                v.up.add(operandWay(s.right, s.rightVersion, 0));
            } else if (s.relation.equals("<=")) {
                v.down.add(operandWay(s.right, s.rightVersion, 1));
            } else if (holds) {
                v.up.add(operandWay(s.right, s.rightVersion, 0));
                v.down.add(operandWay(s.right, s.rightVersion, 0));
            }
            made.add(v);
            now[s.left.number] = v;
        }
        if (s.rightVersion != null) {
            Version v = ahead(s.right.number, how, s, s.rightVersion);
            if (s.relation.equals("<") && holds) {
                v.down.add(operandWay(s.left, s.leftVersion, 1));
            } else if (s.relation.equals("<")) {
                v.up.add(operandWay(s.left, s.leftVersion, 0));
            } else if (s.relation.equals("<=") && holds) {
                v.down.add(operandWay(s.left, s.leftVersion, 0));
            } else if (s.relation.equals("<=")) {
                v.up.add(operandWay(s.left, s.leftVersion, -1));
            } else if (holds) {
                v.up.add(operandWay(s.left, s.leftVersion, 0));
                v.down.add(operandWay(s.left, s.leftVersion, 0));
            }
            made.add(v);
            now[s.right.number] = v;
        }
    }

    // ---- bounds ----

    /** All bounds, as if nothing were known behind one check (or with all, null). */
    void bounds(Version without) {
        for (int row = 0; row < 3; row++) {
            for (Version v : versions) {
                v.above[row] = -FAR;
            }
            boolean moved = places[row] != NONE;
            while (moved) {
                moved = false;
                for (Version v : versions) {
                    int n = v.meets() ? Math.max(v.from.above[row], v.other.above[row]) : leastAbove(v, row, without);
                    n = n > ENOUGH ? FAR : n;
                    moved |= n != v.above[row];
                    v.above[row] = n;
                }
            }
        }
        for (Version v : versions) {
            v.below = FAR - 1;
        }
        boolean moved = true;
        while (moved) {
            moved = false;
            for (Version v : versions) {
                int n = v.meets() ? lesser(v.from.below, v.other.below) : greatestBelow(v, without);
                n = n < -ENOUGH ? FAR : n;
                moved |= n != v.below;
                v.below = n;
            }
        }
    }

    /** FAR of BELOW is less than all numbers. */
    private static int lesser(int a, int b) {
        return a == FAR || b == FAR ? FAR : Math.min(a, b);
    }

    private static int greater(int a, int b) {
        if (a == FAR || b == FAR) {
            return a == FAR ? b : a;
        }
        return Math.max(a, b);
    }

    int wayAbove(Way w, int row) {
        int n = w.number - places[row];
        if (w.version != null) {
            n = w.version.above[row];
        } else if (w.row != NONE) {
            n = w.row == row ? 0 : FAR;
        }
        return n == FAR ? FAR : n + w.plus;
    }

    int wayBelow(Way w) {
        int n = w.number;
        if (w.version != null) {
            n = w.version.below;
        } else if (w.row != NONE) {
            n = places[w.row];
        }
        return n == FAR ? FAR : n + w.plus;
    }

    private int leastAbove(Version v, int row, Version without) {
        int least = FAR;
        for (Way w : v.up) {
            if (v != without || w.version != null) {
                least = Math.min(least, wayAbove(w, row));
            }
        }
        return least;
    }

    private int greatestBelow(Version v, Version without) {
        int greatest = FAR;
        for (Way w : v.down) {
            if (v != without || w.version != null) {
                greatest = greater(greatest, wayBelow(w));
            }
        }
        return greatest;
    }

    boolean shown(Statement s, boolean above) {
        return above ? s.looksAt.above[s.row] <= -1 : s.looksAt.below != FAR && s.looksAt.below >= 0;
    }

    List<Integer> chain(Statement s, boolean above) {
        List<Integer> chain = new ArrayList<>();
        Version v = s.looksAt;
        while (true) {
            if (chain.contains(v.index)) {
                chain.add(1002);
                return chain;
            }
            chain.add(v.index);
            if (v.meets()) {
                int first = above ? v.from.above[s.row] : v.from.below;
                v = first == (above ? v.above[s.row] : v.below) ? v.from : v.other;
                continue;
            }
            Way taken = null;
            for (Way w : above ? v.up : v.down) {
                int n = above ? wayAbove(w, s.row) : wayBelow(w);
                if (taken == null && n == (above ? v.above[s.row] : v.below)) {
                    taken = w;
                }
            }
            if (taken.version == null) {
                chain.add(taken.row != NONE ? 1000 : 1001);
                return chain;
            }
            v = taken.version;
        }
    }

    int hangs(Statement s) {
        List<Boolean> before = new ArrayList<>();
        for (Statement c : checks) {
            before.add(shown(c, false));
            before.add(shown(c, true));
        }
        bounds(s.behind);
        int lost = 0;
        for (int i = 0; i < checks.size(); i++) {
            lost += before.get(2 * i) && !shown(checks.get(i), false) ? 1 : 0;
            lost += before.get(2 * i + 1) && !shown(checks.get(i), true) ? 1 : 0;
        }
        bounds(null);
        return lost;
    }

    // ---- guards ----

    Version root(Version v) {
        return standing(v) ? root(v.from) : v;
    }

    int shift(Version v) {
        return standing(v) ? shift(v.from) + v.plus : 0;
    }

    private static boolean standing(Version v) {
        return v.how == CHECK || v.how == HOLDS || v.how == FAILS || v.how == VALUE && v.from != null;
    }

    private void guards() {
        for (Statement s : checks) {
            if (shown(s, false) && shown(s, true)) {
                continue;
            }
            List<Statement> around = new ArrayList<>();
            for (Statement l = s.loopAround; l != null; l = l.loopAround) {
                around.add(0, l);
            }
            for (Statement l : around) {
                Version root = root(s.looksAt);
                boolean fixed = root.index < l.firstVersion;
                boolean counted = l.meeting.contains(root) && root(root.other) == root && shift(root.other) >= 0
                        && l.leftVersion == root && !l.relation.equals("=")
                        && (l.rightVersion == null || l.rightVersion.index < l.firstVersion);
                if (s.guard == null && (fixed || counted)) {
                    s.guard = l;
                    s.counted = counted;
                }
            }
        }
    }

    // ---- runs ----

    /** Ends a run early. */
    private static final class Stop extends RuntimeException {
        private static final long serialVersionUID = 1L;
    }

    /** What a run was. */
    final class Run {
        final int how;
        final int[] inputs;
        final int[][] rows = new int[3][];
        final int[] values = new int[8];
        final int[] was = new int[versions.size()];
        final List<Integer> outs = new ArrayList<>();
        final List<Statement> unaskedNow = new ArrayList<>();
        int ends;
        int failed = NONE;
        int steps;
        int asked;
        int unasked;
        int askedAhead;

        Run(int how, int[] inputs, int[] lengths) {
            this.how = how;
            this.inputs = inputs;
            for (int row = 0; row < 3; row++) {
                rows[row] = new int[Math.max(lengths[row], Math.max(places[row], 0))];
                for (int j = 0; j < rows[row].length; j++) {
                    rows[row][j] = j;
                }
            }
            try {
                block(program);
            } catch (Stop stop) {
                ends = failed == NONE ? 2 : 1;
            }
        }

        private void block(List<Statement> block) {
            for (Statement s : block) {
                if (s.kind == 'w') {
                    loop(s);
                    continue;
                }
                step();
                if (s.row != NONE) {
                    check(s);
                }
                if (s.kind == 'v') {
                    values[s.variable] = worth(s);
                    was[s.valueVersion.index] = values[s.variable];
                } else if (s.kind == 'r') {
                    rows[s.row][values[s.looked]] = values[s.variable];
                } else if (s.kind == 'o') {
                    outs.add(values[s.variable]);
                } else if (s.kind == 'i') {
                    boolean holds = test(s);
                    block(holds ? s.block : s.other);
                    make(s.meeting);
                }
            }
        }

        private void loop(Statement s) {
            make(s.meeting);
            if (how == 2 && askAhead(s)) {
                unasked++;
                unaskedNow.add(s);
            }
            step();
            while (test(s)) {
                block(s.block);
                make(s.meeting);
                step();
            }
            unaskedNow.remove(s);
        }

        private boolean askAhead(Statement loop) {
            boolean any = false;
            for (Statement s : checks) {
                if (s.guard != loop) {
                    continue;
                }
                any = true;
                int low = was[root(s.looksAt).index] + shift(s.looksAt);
                int high = low;
                if (s.counted) {
                    high = side(loop.right) + shift(s.looksAt) - (loop.relation.equals("<") ? 1 : 0);
                }
                if (!shown(s, false)) {
                    asked++;
                    askedAhead++;
                    if (low < 0) {
                        return false;
                    }
                }
                if (!shown(s, true)) {
                    asked++;
                    askedAhead++;
                    if (high >= rows[s.row].length) {
                        return false;
                    }
                }
            }
            return any;
        }

        private void step() {
            if (steps == 300) {
                throw new Stop();
            }
            steps++;
        }

        private void check(Statement s) {
            int x = values[s.looked];
            if (s.guard == null || !unaskedNow.contains(s.guard)) {
                part(s, how == 0 || !shown(s, false), x >= 0);
                part(s, how == 0 || !shown(s, true), x < rows[s.row].length);
            }
            was[s.behind.index] = x;
        }

        private void part(Statement s, boolean asks, boolean holds) {
            if (asks) {
                asked++;
                if (!holds) {
                    failed = s.index;
                    throw new Stop();
                }
            }
        }

        private int side(Operand o) {
            return o.kind == 'v' ? values[o.number] : o.kind == '#' ? rows[o.number].length : o.number;
        }

        private int worth(Statement s) {
            if (s.row != NONE) {
                return rows[s.row][values[s.looked]];
            }
            return s.value.kind == 'i' ? inputs[s.value.number] : side(s.value) + s.value.plus;
        }

        private boolean test(Statement s) {
            int left = side(s.left);
            int right = side(s.right);
            boolean holds = s.relation.equals("<") ? left < right : s.relation.equals("<=") ? left <= right : left == right;
            make(holds ? s.held : s.failed);
            return holds;
        }

        private void make(List<Version> made) {
            for (Version v : made) {
                was[v.index] = values[v.variable];
            }
        }
    }
}
