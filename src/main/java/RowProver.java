import java.util.Arrays;
import java.util.NoSuchElementException;

/**
 * Reads small programs with rows, shows which checks of places in rows are not
 * needed, and runs the programs with all checks and with fewer of them.
 */
public final class RowProver {
    public static final int NONE = -1;
    public static final int FAR = 99999;

    private static final int MOST_BYTES = 400;
    private static final int MOST_STATEMENTS = 40;
    private static final int MOST_BLOCKS = 5;
    private static final int MOST_LENGTH = 40;
    private static final int MOST_PLACES = 20;
    private static final int MOST_NUMBER = 99;
    private static final int MOST_STEPS = 300;
    private static final int MOST_APART = 20;
    private static final int VARIABLES = 8;
    private static final int ROWS = 3;
    private static final int INPUTS = 3;
    private static final int BYTES_FED = 20;
    /**
     * With k ifs and whiles and m other statements, 40 in all: 8 at the beginning,
     * 4k of sides, 2m of checks and values, and JOINED or ROUND ones, which are
     * 8k at most and 5m at most. That is greatest with k 16 and m 24.
     */
    private static final int MOST_VERSIONS = 240;
    /** Far above what any sweep over the bounds can need. */
    private static final int MOST_PASSES = 1000000;

    private static final int ASSIGN = 0;
    private static final int STORE = 1;
    private static final int PUT_OUT = 2;
    private static final int BRANCH = 3;
    private static final int REPEAT = 4;

    /** What a VALUE or a SIDE is, and what a version's bound is told by. */
    private static final int NOTHING = 0;
    private static final int NUMBER = 1;
    private static final int LENGTH = 2;
    private static final int VARIABLE = 3;
    private static final int ELEMENT = 4;
    private static final int INPUT = 5;

    /** Tokens that are no single byte. */
    private static final int TOKEN_ARRAY = 256;
    private static final int TOKEN_OUT = 257;
    private static final int TOKEN_IF = 258;
    private static final int TOKEN_ELSE = 259;
    private static final int TOKEN_WHILE = 260;
    private static final int TOKEN_IN = 261;
    private static final int TOKEN_NUMBER = 262;
    private static final int TOKEN_AT_MOST = 263;
    private static final int TOKEN_WRONG = 264;

    private static final int LESS = 0;
    private static final int LESS_OR_SAME = 1;
    private static final int SAME = 2;

    private static final int LEFT = 0;
    private static final int RIGHT = 1;

    private static final int BEGINNING = 0;
    private static final int VALUE = 1;
    private static final int CHECKED = 2;
    private static final int HELD = 3;
    private static final int FAILED = 4;
    private static final int JOINED = 5;
    private static final int ROUND = 6;

    /** Bounds 0 to 2 are ABOVE the rows, the last one is BELOW. */
    private static final int UP = 0;
    private static final int DOWN = 1;
    private static final int BELOW = ROWS;
    private static final int BOUNDS = ROWS + 1;

    private static final int FROM_LENGTH = 1000;
    private static final int FROM_NUMBER = 1001;
    private static final int FROM_ITSELF = 1002;

    private static final int FIXED = 0;
    private static final int COUNTED = 1;

    private static final int ASKING_ALL = 0;
    private static final int ASKING_AHEAD = 2;

    /** The results of a run, by what run() is asked for. */
    private static final int ENDED = 0;
    private static final int FAILED_AT = 1;
    private static final int STEPS = 2;
    private static final int OUTS = 3;
    private static final int ASKED = 4;
    private static final int UNASKED = 5;
    private static final int ASKED_AHEAD = 6;
    private static final int RESULTS = 7;

    private static final int ENDED_WELL = 0;
    private static final int ENDED_BY_CHECK = 1;
    private static final int ENDED_BY_STEPS = 2;

    private final int[] tape = new int[MOST_BYTES];
    private final int[] inputs = new int[INPUTS];
    private final int[] lengths = new int[ROWS];
    private final Reader reader = new Reader(tape);
    private final Versions versions = new Versions();
    private final Makings makings = new Makings();
    private final Numbering numbering = new Numbering(versions, makings);
    private final Bounds bounds = new Bounds(versions);
    private final Proof proof = new Proof(versions, makings, bounds);
    private final Guards guards = new Guards(versions, makings, proof);
    private final Runner runner = new Runner(versions, makings, guards, inputs, lengths);
    private Code code = new Code();
    private Code spare = new Code();
    private int taped;
    private int latestFault = NONE;

    public RowProver() {
        analyse();
    }

    public int feed(int a, int b, int c, int d, int e) {
        if (taped + BYTES_FED > MOST_BYTES) {
            return NONE;
        }
        tapeNumber(a);
        tapeNumber(b);
        tapeNumber(c);
        tapeNumber(d);
        tapeNumber(e);
        return taped;
    }

    public boolean end(int n) {
        if (n < 0 || n > taped) {
            return false;
        }
        taped = n;
        return true;
    }

    public int read() throws IllegalArgumentException {
        int size = taped;
        taped = 0;
        if (!reader.parse(spare, size)) {
            latestFault = reader.faultAt;
            throw new IllegalArgumentException("the text is wrong");
        }
        latestFault = NONE;
        Code told = spare;
        spare = code;
        code = told;
        analyse();
        return code.statements;
    }

    public int fault() {
        return latestFault;
    }

    public int statement(int statement, int what) throws IndexOutOfBoundsException, NoSuchElementException {
        needStatement(statement);
        switch (what) {
            case 0:
                return code.kind[statement];
            case 1:
                return code.variable[statement];
            case 2:
                return code.checkOf[statement];
            case 3:
                return code.loopOf[statement];
            case 4:
                return code.around[statement];
            default:
                throw new NoSuchElementException("no such what of a statement");
        }
    }

    public int version(int version, int what) throws IndexOutOfBoundsException, NoSuchElementException {
        needVersion(version);
        switch (what) {
            case 0:
                return versions.variable[version];
            case 1:
                return versions.made[version];
            case 2:
                return versions.madeAt[version];
            case 3:
                return versions.from[version];
            case 4:
                return versions.other[version];
            default:
                throw new NoSuchElementException("no such what of a version");
        }
    }

    public int above(int row, int version) throws IndexOutOfBoundsException, IllegalStateException {
        needRow(row);
        needVersion(version);
        if (code.places[row] == NONE) {
            throw new IllegalStateException("the row was not told");
        }
        return bounds.settled[row][version];
    }

    public int below(int version) throws IndexOutOfBoundsException {
        needVersion(version);
        int turned = bounds.settled[BELOW][version];
        return turned == FAR ? FAR : -turned;
    }

    public int check(int check, int what) throws IndexOutOfBoundsException, NoSuchElementException {
        needCheck(check);
        switch (what) {
            case 0:
                return code.checkStatement[check];
            case 1:
                return code.checkRow[check];
            case 2:
                return makings.looksAt[check];
            case 3:
                return proof.shown[DOWN][check];
            case 4:
                return proof.shown[UP][check];
            case 5:
                return guards.guard[check];
            case 6:
                return guards.manner[check];
            case 7:
                return versions.rootOf[makings.looksAt[check]];
            case 8:
                return versions.shiftOf[makings.looksAt[check]];
            default:
                throw new NoSuchElementException("no such what of a check");
        }
    }

    public int chain(int check, boolean above, int k) throws IndexOutOfBoundsException, IllegalStateException {
        needCheck(check);
        if (proof.shown[above ? UP : DOWN][check] == 0) {
            throw new IllegalStateException("the part is not shown");
        }
        return proof.link(check, above, k);
    }

    public int stands(int version, boolean n) throws IndexOutOfBoundsException {
        needVersion(version);
        return n ? versions.shiftOf[version] : versions.rootOf[version];
    }

    public int loop(int loop, int what) throws IndexOutOfBoundsException, NoSuchElementException {
        needLoop(loop);
        int at = code.loopStatement[loop];
        switch (what) {
            case 0:
                return at;
            case 1:
                return code.around[at];
            case 2:
                return guards.checksGuarded[loop];
            case 3:
                return makings.merges[at];
            case 4:
                return guards.partsGuarded[loop];
            default:
                throw new NoSuchElementException("no such what of a loop");
        }
    }

    public int hangs(int check) throws IndexOutOfBoundsException {
        needCheck(check);
        return proof.lostWithout(check);
    }

    public int length(int row, int n) throws IndexOutOfBoundsException, IllegalArgumentException {
        needRow(row);
        if (n < 0 || n > MOST_LENGTH) {
            throw new IllegalArgumentException("no length of a row");
        }
        int before = lengths[row];
        lengths[row] = n;
        return before;
    }

    public int input(int d, int v) throws IllegalArgumentException {
        needInput(d);
        needInputNumber(v);
        int before = inputs[d];
        inputs[d] = v;
        return before;
    }

    public int run(int how, int what) throws IllegalArgumentException, NoSuchElementException {
        needHow(how);
        if (what < 0 || what >= RESULTS) {
            throw new NoSuchElementException("no such what of a run");
        }
        runner.perform(code, how);
        return runner.results[what];
    }

    public int out(int how, int k) throws IllegalArgumentException, NoSuchElementException {
        needHow(how);
        runner.perform(code, how);
        if (k < 0 || k >= runner.results[OUTS]) {
            throw new NoSuchElementException("nothing was out so");
        }
        return runner.outNumbers[k];
    }

    public int place(int how, int row, int j)
            throws IndexOutOfBoundsException, IllegalArgumentException, NoSuchElementException {
        needRow(row);
        needHow(how);
        runner.perform(code, how);
        if (code.places[row] == NONE || j < 0 || j >= runner.sizes[row]) {
            throw new NoSuchElementException("no such place");
        }
        return runner.rows[row][j];
    }

    public int was(int how, int version) throws IndexOutOfBoundsException, IllegalArgumentException {
        needVersion(version);
        needHow(how);
        runner.perform(code, how);
        return runner.lastOf[version];
    }

    public int saves(int d, int low, int high, boolean most) throws IllegalArgumentException {
        needInput(d);
        needInputNumber(low);
        needInputNumber(high);
        if (low > high || high - low > MOST_APART) {
            throw new IllegalArgumentException("no such span of an input");
        }
        int before = inputs[d];
        int best = 0;
        int bestWith = low;
        for (int v = low; v <= high; v++) {
            inputs[d] = v;
            runner.perform(code, ASKING_ALL);
            int less = runner.results[ASKED];
            runner.perform(code, ASKING_AHEAD);
            less -= runner.results[ASKED];
            if (v == low || less > best) {
                best = less;
                bestWith = v;
            }
        }
        inputs[d] = before;
        return most ? best : bestWith;
    }

    public int count(int what) {
        switch (what) {
            case 0:
                return code.statements;
            case 1:
                return versions.size;
            case 2:
                return code.checks;
            case 3:
                return code.loops;
            case 4:
                return proof.partsShown;
            case 5:
                return proof.wholeShown;
            case 6:
                return guards.guarded;
            case 7:
                return code.rowBits();
            case 8:
            case 9:
            case 10:
                return code.places[what - 8];
            default:
                return NONE;
        }
    }

    private void tapeNumber(int number) {
        for (int shift = 24; shift >= 0; shift -= 8) {
            tape[taped] = (number >>> shift) & 255;
            taped++;
        }
    }

    private void analyse() {
        numbering.perform(code);
        bounds.solveAll(code, bounds.settled, NONE);
        proof.perform(code);
        guards.perform(code);
    }

    private void needStatement(int statement) {
        if (statement < 0 || statement >= code.statements) {
            throw new IndexOutOfBoundsException("no such statement");
        }
    }

    private void needVersion(int version) {
        if (version < 0 || version >= versions.size) {
            throw new IndexOutOfBoundsException("no such version");
        }
    }

    private void needCheck(int check) {
        if (check < 0 || check >= code.checks) {
            throw new IndexOutOfBoundsException("no such check");
        }
    }

    private void needLoop(int loop) {
        if (loop < 0 || loop >= code.loops) {
            throw new IndexOutOfBoundsException("no such loop");
        }
    }

    private void needRow(int row) {
        if (row < 0 || row >= ROWS) {
            throw new IndexOutOfBoundsException("no such row");
        }
    }

    private void needHow(int how) {
        if (how < ASKING_ALL || how > ASKING_AHEAD) {
            throw new IllegalArgumentException("no way to run");
        }
    }

    private void needInput(int d) {
        if (d < 0 || d >= INPUTS) {
            throw new IllegalArgumentException("no such input");
        }
    }

    private void needInputNumber(int v) {
        if (v < -MOST_NUMBER || v > MOST_NUMBER) {
            throw new IllegalArgumentException("no number of an input");
        }
    }

    /** The tests of if and while, by statement. */
    private static final class Tests {
        final int[] relation = new int[MOST_STATEMENTS];
        /** NUMBER, LENGTH or VARIABLE, of the left and of the right side. */
        final int[][] sideKind = new int[2][MOST_STATEMENTS];
        final int[][] sideNumber = new int[2][MOST_STATEMENTS];

        boolean sameVariables(int s) {
            return sideKind[LEFT][s] == VARIABLE && sideKind[RIGHT][s] == VARIABLE
                    && sideNumber[LEFT][s] == sideNumber[RIGHT][s];
        }
    }

    /**
     * A program. Statements lie as they begin, so those of a block follow the
     * statement that has it: the first block goes from behind it to middle, the
     * other one from there to after (while: both ends are the same).
     */
    private static final class Code {
        int statements;
        int checks;
        int loops;
        final int[] places = new int[ROWS];
        final int[] kind = new int[MOST_STATEMENTS];
        final int[] variable = new int[MOST_STATEMENTS];
        final int[] form = new int[MOST_STATEMENTS];
        final int[] source = new int[MOST_STATEMENTS];
        final int[] number = new int[MOST_STATEMENTS];
        final int[] checkOf = new int[MOST_STATEMENTS];
        final int[] loopOf = new int[MOST_STATEMENTS];
        final int[] around = new int[MOST_STATEMENTS];
        final int[] middle = new int[MOST_STATEMENTS];
        final int[] after = new int[MOST_STATEMENTS];
        final int[] checkStatement = new int[MOST_STATEMENTS];
        final int[] checkRow = new int[MOST_STATEMENTS];
        final int[] checkVariable = new int[MOST_STATEMENTS];
        final int[] loopStatement = new int[MOST_STATEMENTS];
        final Tests tests = new Tests();

        Code() {
            Arrays.fill(places, NONE);
        }

        void empty() {
            statements = 0;
            checks = 0;
            loops = 0;
            Arrays.fill(places, NONE);
        }

        int begin(int whatKind, int aroundLoop) {
            int s = statements;
            statements++;
            kind[s] = whatKind;
            variable[s] = NONE;
            form[s] = NOTHING;
            source[s] = NONE;
            number[s] = 0;
            checkOf[s] = NONE;
            loopOf[s] = NONE;
            around[s] = aroundLoop;
            middle[s] = s + 1;
            after[s] = s + 1;
            return s;
        }

        void addCheck(int s, int row, int ofVariable) {
            int c = checks;
            checks++;
            checkOf[s] = c;
            checkStatement[c] = s;
            checkRow[c] = row;
            checkVariable[c] = ofVariable;
        }

        int addLoop(int s) {
            int l = loops;
            loops++;
            loopOf[s] = l;
            loopStatement[l] = s;
            return l;
        }

        int rowBits() {
            int bits = 0;
            for (int row = 0; row < ROWS; row++) {
                if (places[row] != NONE) {
                    bits |= 1 << row;
                }
            }
            return bits;
        }

        /** The variables told anew in the blocks of a statement, as bits. */
        int toldAnew(int s) {
            int bits = 0;
            for (int inner = s + 1; inner < after[s]; inner++) {
                if (kind[inner] == ASSIGN) {
                    bits |= 1 << variable[inner];
                }
            }
            return bits;
        }
    }

    /** The words, numbers and signs of a text, each at its first byte. */
    private static final class Tokens {
        private final int[] text;
        private int size;
        private int tokens;
        /** A sign, a row or a variable is its own byte; NONE is the end. */
        final int[] kind = new int[MOST_BYTES + 1];
        final int[] start = new int[MOST_BYTES + 1];
        final int[] worth = new int[MOST_BYTES + 1];

        Tokens(int[] text) {
            this.text = text;
        }

        void split(int howMany) {
            size = Math.min(howMany, text.length);
            tokens = 0;
            int next = 0;
            for (int at = 0; at < size; at = Math.max(at + 1, next)) {
                next = at + 1;
                if (isLetter(at)) {
                    next = word(at);
                } else if (isDigit(at)) {
                    next = number(at);
                } else if (text[at] == '<' && next < size && text[next] == '=') {
                    next++;
                    put(TOKEN_AT_MOST, at, 0);
                } else if (text[at] != 9 && text[at] != 10 && text[at] != 32) {
                    put(text[at], at, 0);
                }
            }
            put(NONE, size, 0);
        }

        private boolean isLetter(int at) {
            return text[at] >= 'a' && text[at] <= 'z';
        }

        private boolean isDigit(int at) {
            return text[at] >= '0' && text[at] <= '9';
        }

        private void put(int ofKind, int at, int number) {
            kind[tokens] = ofKind;
            start[tokens] = at;
            worth[tokens] = number;
            tokens++;
        }

        /** Takes a word in; where it ends. */
        private int word(int at) {
            int end = at + 1;
            while (end < size && isLetter(end)) {
                end++;
            }
            put(end - at == 1 ? text[at] : wordKind(at, end - at), at, 0);
            return end;
        }

        private int wordKind(int at, int letters) {
            if (isWord("array", at, letters)) {
                return TOKEN_ARRAY;
            }
            if (isWord("out", at, letters)) {
                return TOKEN_OUT;
            }
            if (isWord("if", at, letters)) {
                return TOKEN_IF;
            }
            if (isWord("else", at, letters)) {
                return TOKEN_ELSE;
            }
            if (isWord("while", at, letters)) {
                return TOKEN_WHILE;
            }
            return isWord("in", at, letters) ? TOKEN_IN : TOKEN_WRONG;
        }

        private boolean isWord(String word, int at, int letters) {
            if (letters != word.length()) {
                return false;
            }
            for (int i = 0; i < letters; i++) {
                if (text[at + i] != word.charAt(i)) {
                    return false;
                }
            }
            return true;
        }

        /** Takes a number in, one too long as a wrong word; where it ends. */
        private int number(int at) {
            int end = at;
            int number = 0;
            while (end < size && isDigit(end)) {
                number = end - at < 2 ? number * 10 + text[end] - '0' : 0;
                end++;
            }
            put(end - at <= 2 ? TOKEN_NUMBER : TOKEN_WRONG, at, number);
            return end;
        }
    }

    /**
     * Reads a program; each method that parses answers whether the text goes on
     * rightly, and leaves the place at the token with which it does not.
     */
    private static final class Reader {
        private final Tokens tokens;
        private int at;
        private int around;
        private Code code;
        int faultAt;

        Reader(int[] text) {
            tokens = new Tokens(text);
        }

        boolean parse(Code into, int size) {
            tokens.split(size);
            code = into;
            code.empty();
            at = 0;
            around = NONE;
            boolean right = rowsTold() && statements(0) && tokens.kind[at] == NONE;
            faultAt = right ? NONE : tokens.start[at];
            return right;
        }

        private boolean sign(int due) {
            if (tokens.kind[at] != due) {
                return false;
            }
            at++;
            return true;
        }

        /** A variable's number, or NONE. */
        private int variable() {
            int x = tokens.kind[at] - 'a';
            if (x < 0 || x >= VARIABLES) {
                return NONE;
            }
            at++;
            return x;
        }

        /** A number that is not above most, or NONE. */
        private int number(int most) {
            if (tokens.kind[at] != TOKEN_NUMBER || tokens.worth[at] > most) {
                return NONE;
            }
            at++;
            return tokens.worth[at - 1];
        }

        /** The number of a row that was told, or NONE. */
        private int toldRow() {
            int row = tokens.kind[at] - 'A';
            if (row < 0 || row >= ROWS || code.places[row] == NONE) {
                return NONE;
            }
            at++;
            return row;
        }

        private boolean rowsTold() {
            for (int told = 0; told <= ROWS && sign(TOKEN_ARRAY); told++) {
                int row = tokens.kind[at] - 'A';
                if (row < 0 || row >= ROWS || code.places[row] != NONE) {
                    return false;
                }
                at++;
                int least = number(MOST_PLACES);
                if (least == NONE || !sign(';')) {
                    return false;
                }
                code.places[row] = least;
            }
            return true;
        }

        /** Statements up to a closing brace or the end; depth counts the open blocks. */
        private boolean statements(int depth) {
            boolean right = true;
            for (int told = 0; right && told <= MOST_STATEMENTS; told++) {
                int next = tokens.kind[at];
                if (next == NONE || next == '}') {
                    return true;
                }
                if (code.statements >= MOST_STATEMENTS) {
                    return false;
                }
                switch (next) {
                    case TOKEN_OUT:
                        right = puttingOut();
                        break;
                    case TOKEN_IF:
                        right = branch(depth);
                        break;
                    case TOKEN_WHILE:
                        right = repetition(depth);
                        break;
                    case 'A':
                    case 'B':
                    case 'C':
                        right = store();
                        break;
                    default:
                        right = assignment();
                        break;
                }
            }
            return right;
        }

        private boolean assignment() {
            int told = variable();
            if (told == NONE) {
                return false;
            }
            int s = code.begin(ASSIGN, around);
            code.variable[s] = told;
            return sign('=') && value(s) && sign(';');
        }

        private boolean store() {
            int s = code.begin(STORE, around);
            if (!element(s) || !sign('=')) {
                return false;
            }
            code.variable[s] = code.checkVariable[code.checkOf[s]];
            code.source[s] = variable();
            return code.source[s] != NONE && sign(';');
        }

        private boolean puttingOut() {
            int s = code.begin(PUT_OUT, around);
            at++;
            code.variable[s] = variable();
            return code.variable[s] != NONE && sign(';');
        }

        private boolean branch(int depth) {
            int s = code.begin(BRANCH, around);
            at++;
            if (!test(s) || !block(depth)) {
                return false;
            }
            code.middle[s] = code.statements;
            if (sign(TOKEN_ELSE) && !block(depth)) {
                return false;
            }
            code.after[s] = code.statements;
            return true;
        }

        private boolean repetition(int depth) {
            int s = code.begin(REPEAT, around);
            at++;
            around = code.addLoop(s);
            if (!test(s) || !block(depth)) {
                return false;
            }
            around = code.around[s];
            code.middle[s] = code.statements;
            code.after[s] = code.statements;
            return true;
        }

        private boolean block(int depth) {
            return depth < MOST_BLOCKS && sign('{') && statements(depth + 1) && sign('}');
        }

        private boolean test(int s) {
            return side(s, LEFT) && relation(s) && side(s, RIGHT);
        }

        private boolean side(int s, int which) {
            Tests tests = code.tests;
            if (tokens.kind[at] == TOKEN_NUMBER) {
                tests.sideKind[which][s] = NUMBER;
                tests.sideNumber[which][s] = number(MOST_NUMBER);
            } else if (sign('#')) {
                tests.sideKind[which][s] = LENGTH;
                tests.sideNumber[which][s] = toldRow();
            } else {
                tests.sideKind[which][s] = VARIABLE;
                tests.sideNumber[which][s] = variable();
            }
            return tests.sideNumber[which][s] != NONE;
        }

        private boolean relation(int s) {
            if (sign('<')) {
                code.tests.relation[s] = LESS;
            } else if (sign(TOKEN_AT_MOST)) {
                code.tests.relation[s] = LESS_OR_SAME;
            } else {
                code.tests.relation[s] = SAME;
                return sign('=');
            }
            return true;
        }

        private boolean value(int s) {
            switch (tokens.kind[at]) {
                case TOKEN_NUMBER:
                    return numberValue(s, 1);
                case '-':
                    at++;
                    return numberValue(s, -1);
                case '#':
                    at++;
                    code.form[s] = LENGTH;
                    code.source[s] = toldRow();
                    return code.source[s] != NONE;
                case TOKEN_IN:
                    at++;
                    code.form[s] = INPUT;
                    code.source[s] = number(INPUTS - 1);
                    return code.source[s] != NONE;
                case 'A':
                case 'B':
                case 'C':
                    code.form[s] = ELEMENT;
                    return element(s);
                default:
                    return variableValue(s);
            }
        }

        private boolean numberValue(int s, int turn) {
            int worth = number(MOST_NUMBER);
            code.form[s] = NUMBER;
            code.number[s] = turn * worth;
            return worth != NONE;
        }

        private boolean variableValue(int s) {
            code.form[s] = VARIABLE;
            code.source[s] = variable();
            if (code.source[s] == NONE) {
                return false;
            }
            int turn = tokens.kind[at] == '+' ? 1 : -1;
            if (!sign('+') && !sign('-')) {
                return true;
            }
            int worth = number(MOST_NUMBER);
            code.number[s] = turn * worth;
            return worth != NONE;
        }

        private boolean element(int s) {
            int row = toldRow();
            if (row == NONE || !sign('[')) {
                return false;
            }
            int looked = variable();
            if (looked == NONE || !sign(']')) {
                return false;
            }
            code.addCheck(s, row, looked);
            return true;
        }
    }

    /** The versions of variables, and what each one's bounds come from. */
    private static final class Versions {
        int size;
        final int[] variable = new int[MOST_VERSIONS];
        final int[] made = new int[MOST_VERSIONS];
        final int[] madeAt = new int[MOST_VERSIONS];
        final int[] from = new int[MOST_VERSIONS];
        final int[] other = new int[MOST_VERSIONS];
        final int[] plus = new int[MOST_VERSIONS];
        final int[] rootOf = new int[MOST_VERSIONS];
        final int[] shiftOf = new int[MOST_VERSIONS];
        /** What is told beside the version it is from: NOTHING, NUMBER, LENGTH or VARIABLE (a version). */
        final int[][] termKind = new int[2][MOST_VERSIONS];
        final int[][] termNumber = new int[2][MOST_VERSIONS];
        /** -1 where a strict comparison tells one more, both upwards and downwards. */
        final int[][] termShift = new int[2][MOST_VERSIONS];

        int add(int ofVariable, int how, int statement) {
            int v = Math.min(size, MOST_VERSIONS - 1);
            size = v + 1;
            variable[v] = ofVariable;
            made[v] = how;
            madeAt[v] = statement;
            from[v] = NONE;
            other[v] = NONE;
            plus[v] = 0;
            rootOf[v] = v;
            shiftOf[v] = 0;
            tellTerm(UP, v, NOTHING, 0, 0);
            tellTerm(DOWN, v, NOTHING, 0, 0);
            return v;
        }

        /** The version is another one and a number. */
        void follow(int v, int ahead, int number) {
            from[v] = ahead;
            plus[v] = number;
            rootOf[v] = rootOf[ahead];
            shiftOf[v] = shiftOf[ahead] + number;
        }

        void tellTerm(int direction, int v, int kind, int number, int shift) {
            termKind[direction][v] = kind;
            termNumber[direction][v] = number;
            termShift[direction][v] = shift;
        }

        void tellBoth(int v, int kind, int number) {
            tellTerm(UP, v, kind, number, 0);
            tellTerm(DOWN, v, kind, number, 0);
        }

        boolean meets(int v) {
            return made[v] == JOINED || made[v] == ROUND;
        }
    }

    /** Which versions the checks and statements look at and make. */
    private static final class Makings {
        final int[] looksAt = new int[MOST_STATEMENTS];
        final int[] behind = new int[MOST_STATEMENTS];
        final int[] value = new int[MOST_STATEMENTS];
        /** The first JOINED version of if; of while the first version of all it makes. */
        final int[] merged = new int[MOST_STATEMENTS];
        final int[] merges = new int[MOST_STATEMENTS];
        final int[] held = new int[MOST_STATEMENTS];
        final int[] failed = new int[MOST_STATEMENTS];
        /** How many versions each answer of the test makes. */
        final int[] sides = new int[MOST_STATEMENTS];
        final int[][] sideVersion = new int[2][MOST_STATEMENTS];
    }

    /** Goes through the text once and makes the versions. */
    private static final class Numbering {
        private final Versions versions;
        private final Makings makings;
        private final int[] current = new int[VARIABLES];
        private final int[][] ahead = new int[MOST_BLOCKS + 1][VARIABLES];
        private final int[][] ends = new int[MOST_BLOCKS + 1][VARIABLES];
        private Code code;

        Numbering(Versions versions, Makings makings) {
            this.versions = versions;
            this.makings = makings;
        }

        void perform(Code ofCode) {
            code = ofCode;
            versions.size = 0;
            for (int x = 0; x < VARIABLES; x++) {
                current[x] = versions.add(x, BEGINNING, NONE);
                versions.tellBoth(current[x], NUMBER, 0);
            }
            walk(0, code.statements, 0);
        }

        private void walk(int first, int end, int depth) {
            if (depth > MOST_BLOCKS) {
                return;
            }
            for (int s = first; s < end; s = Math.max(s + 1, code.after[s])) {
                if (code.checkOf[s] != NONE) {
                    makeChecked(s, code.checkOf[s]);
                }
                if (code.kind[s] == ASSIGN) {
                    makeValue(s);
                } else if (code.kind[s] == BRANCH) {
                    walkBranch(s, depth);
                } else if (code.kind[s] == REPEAT) {
                    walkRepetition(s, depth);
                }
            }
        }

        private void makeChecked(int s, int c) {
            int x = code.checkVariable[c];
            makings.looksAt[c] = current[x];
            int v = versions.add(x, CHECKED, s);
            versions.follow(v, current[x], 0);
            versions.tellTerm(UP, v, LENGTH, code.checkRow[c], -1);
            versions.tellTerm(DOWN, v, NUMBER, 0, 0);
            makings.behind[c] = v;
            current[x] = v;
        }

        private void makeValue(int s) {
            int x = code.variable[s];
            int v = versions.add(x, VALUE, s);
            if (code.form[s] == NUMBER) {
                versions.tellBoth(v, NUMBER, code.number[s]);
            } else if (code.form[s] == LENGTH) {
                versions.tellBoth(v, LENGTH, code.source[s]);
            } else if (code.form[s] == VARIABLE) {
                versions.follow(v, current[code.source[s]], code.number[s]);
            }
            makings.value[s] = v;
            current[x] = v;
        }

        private void walkBranch(int s, int depth) {
            System.arraycopy(current, 0, ahead[depth], 0, VARIABLES);
            lookAtSides(s);
            makings.held[s] = makeSides(s, HELD);
            walk(s + 1, code.middle[s], depth + 1);
            System.arraycopy(current, 0, ends[depth], 0, VARIABLES);
            System.arraycopy(ahead[depth], 0, current, 0, VARIABLES);
            makings.failed[s] = makeSides(s, FAILED);
            walk(code.middle[s], code.after[s], depth + 1);
            makings.merged[s] = versions.size;
            int anew = code.toldAnew(s);
            for (int x = 0; x < VARIABLES; x++) {
                if ((anew >> x & 1) == 1) {
                    int v = versions.add(x, JOINED, s);
                    versions.from[v] = ends[depth][x];
                    versions.other[v] = current[x];
                    current[x] = v;
                } else {
                    current[x] = ahead[depth][x];
                }
            }
            makings.merges[s] = versions.size - makings.merged[s];
        }

        private void walkRepetition(int s, int depth) {
            int anew = code.toldAnew(s);
            int first = versions.size;
            for (int x = 0; x < VARIABLES; x++) {
                if ((anew >> x & 1) == 1) {
                    int v = versions.add(x, ROUND, s);
                    versions.from[v] = current[x];
                    current[x] = v;
                }
            }
            makings.merged[s] = first;
            makings.merges[s] = versions.size - first;
            System.arraycopy(current, 0, ahead[depth], 0, VARIABLES);
            lookAtSides(s);
            makings.held[s] = makeSides(s, HELD);
            walk(s + 1, code.after[s], depth + 1);
            for (int v = first; v < first + makings.merges[s]; v++) {
                versions.other[v] = current[versions.variable[v]];
            }
            System.arraycopy(ahead[depth], 0, current, 0, VARIABLES);
            makings.failed[s] = makeSides(s, FAILED);
        }

        private void lookAtSides(int s) {
            Tests tests = code.tests;
            for (int side = LEFT; side <= RIGHT; side++) {
                boolean varies = tests.sideKind[side][s] == VARIABLE;
                makings.sideVersion[side][s] = varies ? current[tests.sideNumber[side][s]] : NONE;
            }
        }

        /** Makes the versions that an answer of the test tells of; the first of them. */
        private int makeSides(int s, int how) {
            Tests tests = code.tests;
            int first = versions.size;
            if (!tests.sameVariables(s)) {
                for (int side = LEFT; side <= RIGHT; side++) {
                    if (tests.sideKind[side][s] == VARIABLE) {
                        int v = versions.add(tests.sideNumber[side][s], how, s);
                        versions.follow(v, makings.sideVersion[side][s], 0);
                        tellSide(s, v, side);
                        current[tests.sideNumber[side][s]] = v;
                    }
                }
            }
            makings.sides[s] = versions.size - first;
            return first;
        }

        /** An answer tells the lesser side's bound upwards, the greater one's downwards. */
        private void tellSide(int s, int v, int side) {
            boolean holds = versions.made[v] == HELD;
            int relation = code.tests.relation[s];
            int otherSide = side == LEFT ? RIGHT : LEFT;
            int kind = code.tests.sideKind[otherSide][s];
            int number = kind == VARIABLE ? makings.sideVersion[otherSide][s] : code.tests.sideNumber[otherSide][s];
            if (relation == SAME) {
                if (holds) {
                    versions.tellBoth(v, kind, number);
                }
                return;
            }
            int lesser = holds ? LEFT : RIGHT;
            boolean strict = (relation == LESS) == holds;
            versions.tellTerm(side == lesser ? UP : DOWN, v, kind, number, strict ? -1 : 0);
        }
    }

    /**
     * The least bounds by which all holds. BELOW is kept turned (its negative),
     * so that all bounds are the least solution of one kind of equations.
     */
    private static final class Bounds {
        private final Versions versions;
        private Code code;
        final int[][] settled = new int[BOUNDS][MOST_VERSIONS];
        final int[][] trial = new int[BOUNDS][MOST_VERSIONS];

        Bounds(Versions versions) {
            this.versions = versions;
        }

        /** Solves all, as if nothing were known behind the check that made the version without. */
        void solveAll(Code ofCode, int[][] into, int without) {
            code = ofCode;
            for (int bound = 0; bound < BOUNDS; bound++) {
                if (bound == BELOW || code.places[bound] != NONE) {
                    solve(into[bound], bound, without);
                }
            }
        }

        /**
         * Only ROUND versions look at later ones, so a sweep in which none of
         * them moves has settled all.
         */
        private void solve(int[] into, int bound, int without) {
            int most = mostFinite(bound);
            Arrays.fill(into, 0, versions.size, -FAR);
            boolean moved = true;
            for (int pass = 0; moved && pass < MOST_PASSES; pass++) {
                moved = false;
                for (int v = 0; v < versions.size; v++) {
                    int now = worth(into, bound, v, without);
                    if (versions.made[v] == ROUND) {
                        now = now > most ? FAR : now;
                        moved = moved || now != into[v];
                    }
                    into[v] = now;
                }
            }
        }

        /**
         * A finite bound comes from one told number along versions none of which
         * comes twice, so what rises above this goes on rising.
         */
        private int mostFinite(int bound) {
            int turn = bound == BELOW ? -1 : 1;
            int most = 0;
            int rises = 0;
            for (int v = 0; v < versions.size; v++) {
                rises += Math.max(0, turn * versions.plus[v]);
                for (int direction = UP; direction <= DOWN; direction++) {
                    if (versions.termKind[direction][v] == NUMBER) {
                        most = Math.max(most, turn * versions.termNumber[direction][v]);
                    }
                }
            }
            return most + rises;
        }

        private int worth(int[] known, int bound, int v, int without) {
            if (versions.meets(v)) {
                return Math.max(known[versions.from[v]], known[versions.other[v]]);
            }
            int least = fromAhead(known, bound, v);
            return v == without ? least : Math.min(least, fromTerm(known, bound, v));
        }

        /** What comes from the one version ahead or looked at; FAR without one. */
        int fromAhead(int[] known, int bound, int v) {
            int ahead = versions.from[v];
            if (ahead == NONE) {
                return FAR;
            }
            return moved(known[ahead], bound == BELOW ? -versions.plus[v] : versions.plus[v]);
        }

        private int fromTerm(int[] known, int bound, int v) {
            int direction = bound == BELOW ? DOWN : UP;
            int number = versions.termNumber[direction][v];
            int shift = versions.termShift[direction][v];
            switch (versions.termKind[direction][v]) {
                case NUMBER:
                    return shift + (bound == BELOW ? -number : number - code.places[bound]);
                case LENGTH:
                    return moved(lengthWorth(bound, number), shift);
                case VARIABLE:
                    return moved(known[number], shift);
                default:
                    return FAR;
            }
        }

        private int lengthWorth(int bound, int row) {
            if (bound == BELOW) {
                return -code.places[row];
            }
            return bound == row ? 0 : FAR;
        }

        private int moved(int number, int by) {
            return number == FAR ? FAR : number + by;
        }
    }

    /** Which parts of checks are shown, by which chain, and what hangs on them. */
    private static final class Proof {
        private final Versions versions;
        private final Makings makings;
        private final Bounds bounds;
        private Code code;
        /** The latest chain that came by each version. */
        private final int[] seenIn = new int[MOST_VERSIONS];
        private int chains;
        /** What hangs on each check; NONE till it is asked for. */
        private final int[] lost = new int[MOST_STATEMENTS];
        /** 1 where the part (UP above, DOWN below) is shown. */
        final int[][] shown = new int[2][MOST_STATEMENTS];
        int partsShown;
        int wholeShown;

        Proof(Versions versions, Makings makings, Bounds bounds) {
            this.versions = versions;
            this.makings = makings;
            this.bounds = bounds;
        }

        void perform(Code ofCode) {
            code = ofCode;
            partsShown = 0;
            wholeShown = 0;
            Arrays.fill(lost, NONE);
            for (int c = 0; c < code.checks; c++) {
                shown[UP][c] = holds(bounds.settled, c, UP) ? 1 : 0;
                shown[DOWN][c] = holds(bounds.settled, c, DOWN) ? 1 : 0;
                partsShown += shown[UP][c] + shown[DOWN][c];
                wholeShown += shown[UP][c] * shown[DOWN][c];
            }
        }

        private boolean holds(int[][] known, int c, int part) {
            int v = makings.looksAt[c];
            return part == UP ? known[code.checkRow[c]][v] <= -1 : known[BELOW][v] <= 0;
        }

        /** How many parts are shown that would not be without what the check tells. */
        int lostWithout(int check) {
            if (lost[check] == NONE) {
                bounds.solveAll(code, bounds.trial, makings.behind[check]);
                lost[check] = countLost();
            }
            return lost[check];
        }

        private int countLost() {
            int howMany = 0;
            for (int c = 0; c < code.checks; c++) {
                for (int part = UP; part <= DOWN; part++) {
                    if (shown[part][c] == 1 && !holds(bounds.trial, c, part)) {
                        howMany++;
                    }
                }
            }
            return howMany;
        }

        /** The k-th of the chain of a part that is shown. */
        int link(int check, boolean above, int k) {
            if (k < 0 || k > MOST_VERSIONS) {
                return NONE;
            }
            int bound = above ? code.checkRow[check] : BELOW;
            chains++;
            int v = makings.looksAt[check];
            for (int i = 0; i < k; i++) {
                if (v < 0 || v >= versions.size) {
                    return NONE;
                }
                seenIn[v] = chains;
                v = next(bound, v);
            }
            return v;
        }

        /** What a version's number comes from: a version, or how the chain ends. */
        private int next(int bound, int v) {
            int[] known = bounds.settled[bound];
            int source = versions.from[v];
            if (versions.meets(v)) {
                if (known[source] < known[versions.other[v]]) {
                    source = versions.other[v];
                }
            } else if (source == NONE || bounds.fromAhead(known, bound, v) != known[v]) {
                int direction = bound == BELOW ? DOWN : UP;
                if (versions.termKind[direction][v] != VARIABLE) {
                    return versions.termKind[direction][v] == LENGTH ? FROM_LENGTH : FROM_NUMBER;
                }
                source = versions.termNumber[direction][v];
            }
            return seenIn[source] == chains ? FROM_ITSELF : source;
        }
    }

    /** Which loops guard which checks. */
    private static final class Guards {
        private final Versions versions;
        private final Makings makings;
        private Code code;
        final Proof proof;
        final int[] guard = new int[MOST_STATEMENTS];
        final int[] manner = new int[MOST_STATEMENTS];
        final int[] checksGuarded = new int[MOST_STATEMENTS];
        final int[] partsGuarded = new int[MOST_STATEMENTS];
        int guarded;

        Guards(Versions versions, Makings makings, Proof proof) {
            this.versions = versions;
            this.makings = makings;
            this.proof = proof;
        }

        void perform(Code ofCode) {
            code = ofCode;
            guarded = 0;
            Arrays.fill(checksGuarded, 0);
            Arrays.fill(partsGuarded, 0);
            for (int c = 0; c < code.checks; c++) {
                guard[c] = NONE;
                manner[c] = NONE;
                int missing = 2 - proof.shown[UP][c] - proof.shown[DOWN][c];
                if (missing > 0) {
                    seekGuard(c);
                }
                if (guard[c] != NONE) {
                    guarded++;
                    checksGuarded[guard[c]]++;
                    partsGuarded[guard[c]] += missing;
                }
            }
        }

        /** Goes outwards, so that the outermost loop that may guard stays. */
        private void seekGuard(int c) {
            int root = versions.rootOf[makings.looksAt[c]];
            int loop = code.around[code.checkStatement[c]];
            for (int out = 0; loop != NONE && out < MOST_BLOCKS; out++) {
                int s = code.loopStatement[loop];
                if (root < makings.merged[s]) {
                    guard[c] = loop;
                    manner[c] = FIXED;
                } else if (counts(s, root)) {
                    guard[c] = loop;
                    manner[c] = COUNTED;
                }
                loop = code.around[s];
            }
        }

        private boolean counts(int s, int root) {
            int first = makings.merged[s];
            if (root < first || root >= first + makings.merges[s]) {
                return false;
            }
            int end = versions.other[root];
            if (versions.rootOf[end] != root || versions.shiftOf[end] < 0) {
                return false;
            }
            if (code.tests.relation[s] == SAME || makings.sideVersion[LEFT][s] != root) {
                return false;
            }
            return makings.sideVersion[RIGHT][s] < first;
        }
    }

    /** Runs the program, with all checks or with fewer. */
    private static final class Runner {
        private final Versions versions;
        private final Makings makings;
        private final Proof proof;
        private final Guards guards;
        private final int[] inputs;
        private final int[] lengths;
        private final int[] values = new int[VARIABLES];
        /** 1 where a loop goes unasked, as all that was asked ahead of it held. */
        private final int[] free = new int[MOST_STATEMENTS];
        private Code code;
        private int how;
        final int[] lastOf = new int[MOST_VERSIONS];
        final int[][] rows = new int[ROWS][MOST_LENGTH];
        final int[] sizes = new int[ROWS];
        final int[] outNumbers = new int[MOST_STEPS];
        final int[] results = new int[RESULTS];

        Runner(Versions versions, Makings makings, Guards guards, int[] inputs, int[] lengths) {
            this.versions = versions;
            this.makings = makings;
            this.guards = guards;
            this.proof = guards.proof;
            this.inputs = inputs;
            this.lengths = lengths;
        }

        void perform(Code ofCode, int inWhichWay) {
            code = ofCode;
            how = inWhichWay;
            Arrays.fill(values, 0);
            Arrays.fill(free, 0);
            Arrays.fill(lastOf, 0, versions.size, 0);
            Arrays.fill(results, 0);
            results[ENDED] = ENDED_WELL;
            results[FAILED_AT] = NONE;
            for (int row = 0; row < ROWS; row++) {
                sizes[row] = Math.max(lengths[row], code.places[row]);
                for (int j = 0; j < MOST_LENGTH; j++) {
                    rows[row][j] = j;
                }
            }
            go(0, code.statements, 0);
        }

        /** Runs the statements from first to end; false where the run ends early. */
        private boolean go(int first, int end, int depth) {
            if (depth > MOST_BLOCKS) {
                return false;
            }
            boolean goesOn = true;
            for (int s = first; goesOn && s < end; s = Math.max(s + 1, code.after[s])) {
                if (code.kind[s] == REPEAT) {
                    goesOn = goRound(s, depth);
                } else if (!step() || !passes(s)) {
                    goesOn = false;
                } else if (code.kind[s] == BRANCH) {
                    goesOn = goBranch(s, depth);
                } else {
                    doSimple(s);
                }
            }
            return goesOn;
        }

        private boolean step() {
            if (results[STEPS] >= MOST_STEPS) {
                results[ENDED] = ENDED_BY_STEPS;
                return false;
            }
            results[STEPS]++;
            return true;
        }

        private boolean goBranch(int s, int depth) {
            boolean goesOn;
            if (answer(s)) {
                goesOn = go(s + 1, code.middle[s], depth + 1);
            } else {
                goesOn = go(code.middle[s], code.after[s], depth + 1);
            }
            if (goesOn) {
                make(makings.merged[s], makings.merges[s]);
            }
            return goesOn;
        }

        private boolean goRound(int s, int depth) {
            int loop = code.loopOf[s];
            make(makings.merged[s], makings.merges[s]);
            if (how == ASKING_AHEAD && guards.checksGuarded[loop] > 0 && holdsAhead(loop)) {
                free[loop] = 1;
                results[UNASKED]++;
            }
            for (int round = 0; round <= MOST_STEPS && step(); round++) {
                if (!answer(s)) {
                    free[loop] = 0;
                    return true;
                }
                if (!go(s + 1, code.after[s], depth + 1)) {
                    return false;
                }
                make(makings.merged[s], makings.merges[s]);
            }
            return false;
        }

        private void make(int first, int howMany) {
            for (int v = first; v < first + howMany; v++) {
                lastOf[v] = values[versions.variable[v]];
            }
        }

        /** Asks the test and makes the versions of its sides. */
        private boolean answer(int s) {
            int left = sideNow(s, LEFT);
            int right = sideNow(s, RIGHT);
            boolean holds = left == right;
            if (code.tests.relation[s] == LESS) {
                holds = left < right;
            } else if (code.tests.relation[s] == LESS_OR_SAME) {
                holds = left <= right;
            }
            make(holds ? makings.held[s] : makings.failed[s], makings.sides[s]);
            return holds;
        }

        private int sideNow(int s, int side) {
            int number = code.tests.sideNumber[side][s];
            if (code.tests.sideKind[side][s] == VARIABLE) {
                return values[number];
            }
            return code.tests.sideKind[side][s] == LENGTH ? sizes[number] : number;
        }

        private void doSimple(int s) {
            int x = code.variable[s];
            if (code.kind[s] == ASSIGN) {
                values[x] = valueNow(s);
                lastOf[makings.value[s]] = values[x];
            } else if (code.kind[s] == STORE) {
                rows[code.checkRow[code.checkOf[s]]][values[x]] = values[code.source[s]];
            } else if (results[OUTS] < MOST_STEPS) {
                outNumbers[results[OUTS]] = values[x];
                results[OUTS]++;
            }
        }

        private int valueNow(int s) {
            switch (code.form[s]) {
                case LENGTH:
                    return sizes[code.source[s]];
                case VARIABLE:
                    return values[code.source[s]] + code.number[s];
                case ELEMENT:
                    int c = code.checkOf[s];
                    return rows[code.checkRow[c]][values[code.checkVariable[c]]];
                case INPUT:
                    return inputs[code.source[s]];
                default:
                    return code.number[s];
            }
        }

        /** Asks the check of a statement, if it has one; false where the run ends by it. */
        private boolean passes(int s) {
            int c = code.checkOf[s];
            if (c == NONE) {
                return true;
            }
            int x = values[code.checkVariable[c]];
            boolean inside = x >= 0 && x < sizes[code.checkRow[c]];
            countAsked(c, x);
            if (!inside) {
                results[ENDED] = ENDED_BY_CHECK;
                results[FAILED_AT] = s;
                return false;
            }
            lastOf[makings.behind[c]] = x;
            return true;
        }

        /** Above is asked only if below, where that is asked, holds. */
        private void countAsked(int c, int x) {
            int loop = guards.guard[c];
            if (loop != NONE && free[loop] == 1) {
                return;
            }
            if (how == ASKING_ALL || proof.shown[DOWN][c] == 0) {
                results[ASKED]++;
                if (x < 0) {
                    return;
                }
            }
            if (how == ASKING_ALL || proof.shown[UP][c] == 0) {
                results[ASKED]++;
            }
        }

        /** Asks ahead of a loop, one part behind another till one does not hold. */
        private boolean holdsAhead(int loop) {
            for (int c = 0; c < code.checks; c++) {
                if (guards.guard[c] != loop) {
                    continue;
                }
                if (proof.shown[DOWN][c] == 0) {
                    countAhead();
                    if (lowest(c) < 0) {
                        return false;
                    }
                }
                if (proof.shown[UP][c] == 0) {
                    countAhead();
                    if (highest(c, code.loopStatement[loop]) >= sizes[code.checkRow[c]]) {
                        return false;
                    }
                }
            }
            return true;
        }

        private void countAhead() {
            results[ASKED]++;
            results[ASKED_AHEAD]++;
        }

        private int lowest(int c) {
            int looked = makings.looksAt[c];
            return lastOf[versions.rootOf[looked]] + versions.shiftOf[looked];
        }

        private int highest(int c, int s) {
            if (guards.manner[c] == FIXED) {
                return lowest(c);
            }
            int last = sideNow(s, RIGHT) - (code.tests.relation[s] == LESS ? 1 : 0);
            return last + versions.shiftOf[makings.looksAt[c]];
        }
    }
}
