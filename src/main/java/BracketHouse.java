import java.util.Arrays;

/** Brackets that are a private house, as ../shared/DOC.md tells it. */
public final class BracketHouse {
    public static final int NONE = -1;
    public static final int NOTHING = -100000;

    // What a call is refused by.
    private static final int BAD_NUMBER = -1;
    private static final int NOT_THERE = -2;
    private static final int CANT_BE = -3;
    private static final int NO_ROOM = -5;
    private static final int BAD_TEXT = -6;

    // The limits that the document tells.
    private static final int ROOM = 20;
    private static final int KINDS = 3;
    private static final int BRACKETS = 6;
    private static final int SIGNS = 12;
    private static final int TAPE_ROOM = 400;
    private static final int FED = 20;
    private static final int LAWS = 6;
    private static final int CLAUSES = 12;
    private static final int PARTS = 50;
    private static final int NESTED = 8;
    private static final int GREATEST_NUMBER = 1000;
    private static final int GREATEST_TIMES = 20;
    private static final int GREATEST_SUM = 1000000000;
    private static final int GREATEST_AMOUNT = 99;
    private static final int UNDOABLE = 16;
    private static final int LAST_PAGE = 999;
    private static final int GREATEST_PAIRS = 12;
    private static final int GREATEST_LIKELY = 60;
    private static final int GREATEST_SEED = 1000000;
    private static final int GREATEST_PAGES = 60;
    private static final int EVERYBODY = 63;
    private static final int IMAGES = 2;

    private static final int PAGE_TERM = 0;
    private static final int DEEP_TERM = 1;
    private static final int MOOD_TERM = 2;
    private static final int TERMS = 3;
    private static final int[] LEAST_TERM = {0, 1, 0};
    private static final int[] GREATEST_TERM = {LAST_PAGE, 9, 9};
    private static final int[] FIRST_TERM = {0, 4, 0};

    // What a clause of a law tells, numbered as asks() numbers it.
    private static final int COSTS = 0;
    private static final int STRIKES = 1;
    private static final int WORTH = 2;
    private static final int BARS = 3;

    // What a clause of orders does, numbered as undo() answers it.
    private static final int PUT = 0;
    private static final int CUT = 1;
    private static final int TURN = 2;
    private static final int PASS = 3;

    // Tokens. A single byte is its own token, so all others lie above 255.
    // The words stand in WORDS as they are numbered here.
    private static final int FIRST_WORD = 256;
    private static final String WORDS =
        "costs strikes worth bars put cut turn pass if or and not at to times kind open person place mood sign length page done latest loose deep ";
    private static final int T_COSTS = 256;
    private static final int T_PUT = 260;
    private static final int T_IF = 264;
    private static final int T_OR = 265;
    private static final int T_AND = 266;
    private static final int T_NOT = 267;
    private static final int T_AT = 268;
    private static final int T_TO = 269;
    private static final int T_TIMES = 270;
    private static final int T_KIND = 271;
    private static final int T_SIGN = 276;
    private static final int T_PAGE = 278;
    private static final int T_DEEP = 282;
    private static final int T_OTHER_WORD = 300;
    private static final int T_NUMBER = 301;
    private static final int T_END = 302;

    // Where what a word tells stands: laws know KIND .. PAGE, orders SIGN .. LOOSE
    // and the signs and depths of single places behind them.
    private static final int W_KIND = 0;
    private static final int W_OPEN = 1;
    private static final int W_PERSON = 2;
    private static final int W_PLACE = 3;
    private static final int W_MOOD = 4;
    private static final int W_SIGN = 5;
    private static final int W_LENGTH = 6;
    private static final int W_PAGE = 7;
    private static final int W_DONE = 8;
    private static final int W_LATEST = 9;
    private static final int W_LOOSE = 10;
    private static final int W_SIGN_AT = 12;
    private static final int W_DEEP_AT = 32;
    private static final int W_ALL = 52;

    // Every step comes of a token, but for the ends of at most three sums a clause.
    private static final int STEPS = TAPE_ROOM + 3 * CLAUSES;

    private final State state = new State();
    private final State drawn = new State();
    private final State[] images = new State[IMAGES];
    private final boolean[] kept = new boolean[IMAGES];
    private final Tape tape = new Tape();
    private final Grammar grammar = new Grammar(tape);
    private final Asker asker = new Asker();
    private final Deeds deeds = new Deeds(state, asker);
    private final Deeds drawnDeeds = new Deeds(drawn, asker);
    private final Runner runner = new Runner(state, deeds);
    private final Paper paper = new Paper(asker);
    private final Numbering numbering = new Numbering();
    private final int[] refused = new int[5];
    private boolean hasDrawn = false;
    private int blots = 0;
    private int stopped = NONE;
    private int status = 0;

    public BracketHouse() {
        for (int k = 0; k < IMAGES; k++) {
            images[k] = new State();
        }
    }

    public int terms(int what, int value) {
        if (what < 0 || what >= TERMS || value < LEAST_TERM[what] || value > GREATEST_TERM[what]) {
            return refuse(BAD_NUMBER);
        }
        int was = state.terms[what];
        state.terms[what] = value;
        deeds.forget();
        return grant(was);
    }

    public int feed(int a, int b, int c, int d, int e) {
        if (tape.size + FED > TAPE_ROOM) {
            return NONE;
        }
        tape.addNumber(a);
        tape.addNumber(b);
        tape.addNumber(c);
        tape.addNumber(d);
        tape.addNumber(e);
        return tape.size;
    }

    public int end(int n) {
        if (n < 0 || n > tape.size) {
            return NONE;
        }
        tape.size = n;
        return n;
    }

    public int row() {
        if (tape.size == 0) {
            return refuse(BAD_TEXT);
        }
        int came = 0;
        for (int i = 0; i < tape.size; i++) {
            if (tape.bytes[i] < SIGNS && state.row.length < ROOM) {
                state.row.insert(tape.bytes[i], state.row.length);
                came++;
            }
        }
        blots = tape.size - came;
        tape.size = 0;
        deeds.forget();
        return grant(came);
    }

    public int blots() {
        return blots;
    }

    public int law() {
        if (state.lawCount >= LAWS) {
            tape.size = 0;
            return refuse(NO_ROOM);
        }
        if (!grammar.readsTape(false)) {
            return refuse(BAD_TEXT);
        }
        state.laws[state.lawCount] = new Text(grammar.text);
        state.lawCount++;
        return grant(state.lawCount - 1);
    }

    public int orders() {
        stopped = NONE;
        if (!grammar.readsTape(true)) {
            return refuse(BAD_TEXT);
        }
        stopped = runner.runWhole(grammar.text);
        return stopped == NONE ? grant(runner.done) : refuse(CANT_BE);
    }

    public int fault() {
        return grammar.fault;
    }

    public int stopped() {
        return stopped;
    }

    public int force(int law) {
        if (!state.hasLaw(law)) {
            return refuse(NOT_THERE);
        }
        int was = state.force;
        state.force = law;
        return grant(was);
    }

    public int asks(int sign, int place, int what) {
        if (sign < 0 || sign >= SIGNS || place < 0 || place > state.row.length) {
            return NONE;
        }
        Text law = state.lawOf(state.force);
        if (what == BARS) {
            return asker.isBarred(state, law, sign, place) ? 1 : 0;
        }
        return what < COSTS || what > WORTH ? NONE : asker.amount(state, law, what, sign, place);
    }

    public int put(int sign, int place) {
        return answer(deeds.putSign(sign, place));
    }

    public int cut(int place) {
        return answer(deeds.cutSign(place));
    }

    public int turn(int place, int sign) {
        return answer(deeds.turnSign(place, sign));
    }

    public int pass() {
        return answer(deeds.passPage());
    }

    public int undo() {
        return answer(deeds.undoLatest());
    }

    public int at(int place, int what) {
        if (!state.row.has(place)) {
            return NONE;
        }
        switch (what) {
            case 0: return state.row.signs[place];
            case 1: return state.row.mateOf(place);
            case 2: return state.row.depthOf(place);
            case 3: return state.row.isLoose(place) ? 1 : 0;
            default: return NONE;
        }
    }

    public int said() {
        int people = 0;
        for (int p = 0; p < state.row.length; p++) {
            if (Row.isName(state.row.signs[p]) && state.row.depthOf(p) == 0) {
                people |= 1 << Row.personOf(state.row.signs[p]);
            }
        }
        return people;
    }

    public int whole(int first, int last) {
        if (!state.row.has(first) || !state.row.has(last) || last < first) {
            return NONE;
        }
        return state.row.isWhole(first, last) ? 1 : 0;
    }

    public int mend(int what) {
        if (what < 0 || what > 1 || !paper.mends(state, state.lawOf(state.force))) {
            return NONE;
        }
        return what == 0 ? paper.mendCost : paper.mendSigns;
    }

    public int strike(int what) {
        if (what < 0 || what > state.row.length) {
            return NONE;
        }
        int least = paper.strikes(state);
        if (what == 0) {
            return least;
        }
        paper.chooseStruck(state.row);
        return paper.struck[what - 1] ? 1 : 0;
    }

    public int run(int what) {
        if (what < 0 || what > 1) {
            return NONE;
        }
        paper.findRun(state.row);
        return what == 0 ? paper.runLength : paper.runFirst;
    }

    public int fits(int place) {
        return state.row.has(place) ? paper.fitting(state.row, place) : NONE;
    }

    public long rows(int n, int deep) {
        if (n < 0 || n > GREATEST_PAIRS || deep < 0 || deep > GREATEST_PAIRS) {
            return NONE;
        }
        return numbering.howMany(n, deep);
    }

    public int nth(int n, long k, int i) {
        if (n < 1 || n > GREATEST_PAIRS || i < 0 || i >= 2 * n) {
            return NONE;
        }
        return numbering.signOf(n, state.terms[DEEP_TERM], k, i);
    }

    public long rank() {
        return numbering.numberOf(state.row, state.terms[DEEP_TERM]);
    }

    public int game(int what) {
        if (what < 0 || what > 1 || what == 1 && state.row.length == 0) {
            return NOTHING;
        }
        paper.play(state);
        return what == 0 ? paper.surplus : paper.takenFirst;
    }

    public int hide(int people, int what) {
        if (people < 0 || people > EVERYBODY || what < 0 || what > 3) {
            return NONE;
        }
        if (!paper.hides(state, people)) {
            return NONE;
        }
        switch (what) {
            case 0: return paper.hideCost;
            case 1: return paper.hideKind;
            case 2: return paper.hideOpens;
            default: return paper.hideCloses;
        }
    }

    public long likely(int n) {
        return n < 0 || n > GREATEST_LIKELY ? NONE : numbering.likelihood(n);
    }

    public int compare(int law) {
        if (!state.hasLaw(law) || !paper.mends(state, state.lawOf(law))) {
            return NONE;
        }
        return paper.mendCost;
    }

    public int readers(int seed, int n) {
        if (seed < 0 || seed > GREATEST_SEED || n < 1 || n > GREATEST_PAGES) {
            return refuse(BAD_NUMBER);
        }
        drawn.copyFrom(state);
        hasDrawn = true;
        int s = seed;
        int wholes = 0;
        for (int page = 0; page < n && drawn.terms[PAGE_TERM] < LAST_PAGE; page++) {
            s = readPage(s);
            drawnDeeds.passPage();
            if (drawn.row.isAllWhole()) {
                wholes++;
            }
        }
        return grant(wholes);
    }

    public int drawn(int what) {
        if (!hasDrawn || what < 0) {
            return NONE;
        }
        switch (what) {
            case 0: return drawn.row.length;
            case 1: return drawn.row.looseOnes();
            default: return drawn.row.has(what - 2) ? drawn.row.signs[what - 2] : NONE;
        }
    }

    public int image(int k) {
        if (k < 0 || k >= IMAGES) {
            return refuse(BAD_NUMBER);
        }
        images[k].copyFrom(state);
        kept[k] = true;
        return grant(0);
    }

    public int back(int k) {
        if (k < 0 || k >= IMAGES) {
            return refuse(BAD_NUMBER);
        }
        if (!kept[k]) {
            return refuse(NOT_THERE);
        }
        state.copyFrom(images[k]);
        deeds.forget();
        return grant(0);
    }

    public int count(int what) {
        if (what >= 5 && what <= 9) {
            return refused[what - 5];
        }
        if (what >= 11 && what <= 13) {
            return state.terms[what - 11];
        }
        switch (what) {
            case 0: return state.row.length;
            case 1: return state.row.looseOnes();
            case 2: return state.lawCount;
            case 3: return deeds.size;
            case 4: return tape.size;
            case 10: return state.force;
            default: return NONE;
        }
    }

    public int status() {
        return status;
    }

    private int grant(int answer) {
        status = 0;
        return answer;
    }

    private int refuse(int by) {
        status = by;
        refused[refusalIndex(by)]++;
        return by;
    }

    private static int refusalIndex(int by) {
        switch (by) {
            case BAD_NUMBER: return 0;
            case NOT_THERE: return 1;
            case CANT_BE: return 2;
            case NO_ROOM: return 3;
            default: return 4;
        }
    }

    /** For calls whose answers are never below 0 unless they are refused. */
    private int answer(int told) {
        return told < 0 ? refuse(told) : grant(told);
    }

    /** What one reader does on the page before it passes; answers the draws' new state. */
    private int readPage(int before) {
        int s = nextDraw(before);
        int length = drawn.row.length;
        int does = s % 3;
        if (does == 0) {
            s = nextDraw(s);
            int sign = s % BRACKETS;
            s = nextDraw(s);
            drawnDeeds.putSign(sign, s % (length + 1));
        } else if (does == 1 && length > 0) {
            s = nextDraw(s);
            drawnDeeds.cutSign(s % length);
        }
        return s;
    }

    private static int nextDraw(int s) {
        return (s * 1103 + 12345) % 1000003;
    }

    /** The signs in their places, and what is paired with what. */
    private static final class Row {
        final int[] signs = new int[ROOM];
        int length = 0;
        private final int[] mates = new int[ROOM];
        private final int[] depths = new int[ROOM];
        private final int[] open = new int[ROOM];
        private int loose = 0;
        // Pairs are looked for only when asked, as most changes are followed by others.
        private boolean paired = false;

        static boolean opens(int sign) {
            return sign < KINDS;
        }

        static boolean closes(int sign) {
            return sign >= KINDS && sign < BRACKETS;
        }

        static boolean isName(int sign) {
            return sign >= BRACKETS;
        }

        static int kindOf(int sign) {
            return sign < BRACKETS ? sign % KINDS : NONE;
        }

        static int personOf(int sign) {
            return sign < BRACKETS ? NONE : sign - BRACKETS;
        }

        boolean has(int place) {
            return place >= 0 && place < length;
        }

        void insert(int sign, int place) {
            if (length >= ROOM || place < 0 || place > length) {
                return;
            }
            System.arraycopy(signs, place, signs, place + 1, length - place);
            signs[place] = sign;
            length++;
            paired = false;
        }

        void remove(int place) {
            if (!has(place)) {
                return;
            }
            System.arraycopy(signs, place + 1, signs, place, length - place - 1);
            length--;
            paired = false;
        }

        void replace(int place, int sign) {
            if (has(place)) {
                signs[place] = sign;
                paired = false;
            }
        }

        void copyFrom(Row other) {
            System.arraycopy(other.signs, 0, signs, 0, ROOM);
            length = other.length;
            paired = false;
        }

        int mateOf(int place) {
            pairUp();
            return mates[place];
        }

        int depthOf(int place) {
            pairUp();
            return depths[place];
        }

        boolean isLoose(int place) {
            pairUp();
            return mates[place] == NONE && !isName(signs[place]);
        }

        int looseOnes() {
            pairUp();
            return loose;
        }

        boolean isAllWhole() {
            return looseOnes() == 0;
        }

        /** Whether the run from first to last, read by itself, is whole. */
        boolean isWhole(int first, int last) {
            int top = 0;
            for (int p = first; p <= last; p++) {
                int sign = signs[p];
                if (opens(sign)) {
                    open[top] = sign;
                    top++;
                } else if (closes(sign)) {
                    if (top == 0 || open[top - 1] != kindOf(sign)) {
                        return false;
                    }
                    top--;
                }
            }
            return top == 0;
        }

        private void pairUp() {
            if (paired) {
                return;
            }
            findMates();
            countDepths();
            paired = true;
        }

        private void findMates() {
            int top = 0;
            loose = 0;
            for (int p = 0; p < length; p++) {
                mates[p] = NONE;
                if (opens(signs[p])) {
                    open[top] = p;
                    top++;
                } else if (closes(signs[p])) {
                    if (top > 0 && signs[open[top - 1]] == kindOf(signs[p])) {
                        top--;
                        mates[p] = open[top];
                        mates[open[top]] = p;
                    } else {
                        loose++;
                    }
                }
            }
            loose += top;
        }

        private void countDepths() {
            int deep = 0;
            for (int p = 0; p < length; p++) {
                boolean isPaired = mates[p] != NONE;
                if (isPaired && mates[p] < p) {
                    deep--;
                }
                depths[p] = deep;
                if (isPaired && mates[p] > p) {
                    deep++;
                }
            }
        }
    }

    /** All that an image keeps. */
    private static final class State {
        final Row row = new Row();
        final int[] terms = new int[TERMS];
        // A law is never changed once it is made, so that images may share it.
        final Text[] laws = new Text[LAWS];
        int lawCount = 0;
        int force = NONE;

        State() {
            System.arraycopy(FIRST_TERM, 0, terms, 0, TERMS);
        }

        void copyFrom(State other) {
            row.copyFrom(other.row);
            System.arraycopy(other.terms, 0, terms, 0, TERMS);
            for (int i = 0; i < LAWS; i++) {
                laws[i] = other.laws[i];
            }
            lawCount = other.lawCount;
            force = other.force;
        }

        boolean hasLaw(int number) {
            return number >= NONE && number < lawCount;
        }

        /** The law of a number; null without one, which every asker takes as no clause. */
        Text lawOf(int number) {
            return number >= 0 && number < lawCount ? laws[number] : null;
        }
    }

    /** The bytes that are fed, and the tokens that they are split into. */
    private static final class Tape {
        final int[] bytes = new int[TAPE_ROOM];
        int size = 0;
        // One more than there can be bytes, as the end is a token, too.
        final int[] tokens = new int[TAPE_ROOM + 1];
        final int[] starts = new int[TAPE_ROOM + 1];
        final int[] values = new int[TAPE_ROOM + 1];
        int count = 0;
        private final char[] words = WORDS.toCharArray();

        void addNumber(int number) {
            for (int shift = 24; shift >= 0 && size < TAPE_ROOM; shift -= 8) {
                bytes[size] = number >>> shift & 255;
                size++;
            }
        }

        void split() {
            count = 0;
            int end = 0;
            for (int i = 0; i < size; i++) {
                if (i >= end && bytes[i] != ' ') {
                    end = endOf(i);
                    addToken(i, end);
                }
            }
            tokens[count] = T_END;
            starts[count] = size;
            count++;
        }

        private static boolean isLetter(int b) {
            return b >= 'a' && b <= 'z';
        }

        private static boolean isDigit(int b) {
            return b >= '0' && b <= '9';
        }

        private int endOf(int start) {
            boolean word = isLetter(bytes[start]);
            boolean number = isDigit(bytes[start]);
            int end = start + 1;
            while (end < size && (word && isLetter(bytes[end]) || number && isDigit(bytes[end]))) {
                end++;
            }
            return end;
        }

        private void addToken(int start, int end) {
            starts[count] = start;
            if (isDigit(bytes[start])) {
                tokens[count] = T_NUMBER;
                values[count] = numberOf(start, end);
            } else if (isLetter(bytes[start])) {
                tokens[count] = wordOf(start, end);
            } else {
                tokens[count] = bytes[start];
            }
            count++;
        }

        private int numberOf(int start, int end) {
            int number = 0;
            for (int i = start; i < end; i++) {
                // Held just above all that is allowed, as a long row of digits would wrap around.
                number = Math.min(GREATEST_NUMBER + 1, number * 10 + bytes[i] - '0');
            }
            return number;
        }

        private int wordOf(int start, int end) {
            int word = FIRST_WORD;
            int from = 0;
            for (int i = 0; i < words.length; i++) {
                if (words[i] == ' ') {
                    if (i - from == end - start && hasWord(from, start, end - start)) {
                        return word;
                    }
                    word++;
                    from = i + 1;
                }
            }
            return T_OTHER_WORD;
        }

        private boolean hasWord(int from, int start, int length) {
            for (int i = 0; i < length; i++) {
                if (words[from + i] != bytes[start + i]) {
                    return false;
                }
            }
            return true;
        }
    }

    /** A law or orders as clauses, whose sums and tests are rows of steps on a stack. */
    private static final class Text {
        final int[] kinds;
        final int[] firsts;
        final int[] seconds;
        final int[] tests;
        final int[] times;
        final int[] steps;
        final int[] values;
        int clauses = 0;
        int size = 0;

        Text() {
            kinds = new int[CLAUSES];
            firsts = new int[CLAUSES];
            seconds = new int[CLAUSES];
            tests = new int[CLAUSES];
            times = new int[CLAUSES];
            steps = new int[STEPS];
            values = new int[STEPS];
        }

        /** A copy that has no more room than it needs, as laws are many and kept. */
        Text(Text other) {
            clauses = other.clauses;
            size = other.size;
            kinds = Arrays.copyOf(other.kinds, clauses);
            firsts = Arrays.copyOf(other.firsts, clauses);
            seconds = Arrays.copyOf(other.seconds, clauses);
            tests = Arrays.copyOf(other.tests, clauses);
            times = Arrays.copyOf(other.times, clauses);
            steps = Arrays.copyOf(other.steps, size);
            values = Arrays.copyOf(other.values, size);
        }

        void clear() {
            clauses = 0;
            size = 0;
        }

        /** A new clause without sums and test, to be done once; its number. */
        int addClause(int kind) {
            int c = clauses;
            kinds[c] = kind;
            firsts[c] = NONE;
            seconds[c] = NONE;
            tests[c] = NONE;
            times[c] = 1;
            clauses++;
            return c;
        }

        /** A new step; its number. */
        int addStep(int step, int value) {
            int i = size < steps.length ? size : steps.length - 1;
            steps[i] = step;
            values[i] = value;
            size = i + 1;
            return i;
        }
    }

    /** Reads the tape as a text of one of the two languages. */
    private static final class Grammar {
        final Text text = new Text();
        int fault = NONE;
        private final Tape tape;
        private boolean ofOrders = false;
        private int next = 0;
        private int token = T_END;
        private int parts = 0;
        private int nested = 0;

        Grammar(Tape tape) {
            this.tape = tape;
        }

        /** Whether the tape, which is empty then, is a text; if not, where its fault is. */
        boolean readsTape(boolean orders) {
            ofOrders = orders;
            next = 0;
            parts = 0;
            nested = 0;
            fault = NONE;
            text.clear();
            tape.split();
            tape.size = 0;
            token = tape.tokens[0];
            for (int c = 0; c < CLAUSES; c++) {
                if (!clause()) {
                    return false;
                }
                if (token == T_END) {
                    return true;
                }
                if (!take(';')) {
                    return false;
                }
            }
            return fail();
        }

        private void advance() {
            if (next + 1 < tape.count) {
                next++;
            }
            token = tape.tokens[next];
        }

        private boolean fail() {
            fault = tape.starts[next];
            return false;
        }

        private boolean take(int wanted) {
            if (token != wanted) {
                return fail();
            }
            advance();
            return true;
        }

        private boolean isNumber(int least, int greatest) {
            return token == T_NUMBER && tape.values[next] >= least && tape.values[next] <= greatest;
        }

        private boolean clause() {
            int kind = token - (ofOrders ? T_PUT : T_COSTS);
            if (kind < 0 || kind > 3) {
                return fail();
            }
            advance();
            int c = text.addClause(kind);
            if (ofOrders ? !order(c, kind) : kind != BARS && !startedSum(text.firsts, c)) {
                return false;
            }
            if (token != T_IF) {
                return true;
            }
            advance();
            text.tests[c] = text.size;
            if (!test()) {
                return false;
            }
            text.addStep('.', 0);
            return true;
        }

        private boolean order(int c, int kind) {
            if (kind != PASS && !startedSum(text.firsts, c)) {
                return false;
            }
            if (kind == PUT && !(take(T_AT) && startedSum(text.seconds, c))) {
                return false;
            }
            if (kind == TURN && !(take(T_TO) && startedSum(text.seconds, c))) {
                return false;
            }
            return token != T_TIMES || times(c);
        }

        private boolean startedSum(int[] starts, int c) {
            starts[c] = text.size;
            if (!sum()) {
                return false;
            }
            text.addStep('.', 0);
            return true;
        }

        private boolean times(int c) {
            advance();
            if (!isNumber(1, GREATEST_TIMES)) {
                return fail();
            }
            text.times[c] = tape.values[next];
            advance();
            return true;
        }

        private boolean test() {
            if (!both()) {
                return false;
            }
            for (int i = 0; i < TAPE_ROOM && token == T_OR; i++) {
                int skip = text.addStep('|', 0);
                advance();
                if (!both()) {
                    return false;
                }
                text.values[skip] = text.size;
            }
            return true;
        }

        private boolean both() {
            if (!plain()) {
                return false;
            }
            for (int i = 0; i < TAPE_ROOM && token == T_AND; i++) {
                int skip = text.addStep('&', 0);
                advance();
                if (!plain()) {
                    return false;
                }
                text.values[skip] = text.size;
            }
            return true;
        }

        private boolean plain() {
            // Counted, not gone into: a tape has room for many of them within one another.
            boolean turned = false;
            for (int i = 0; i < TAPE_ROOM && token == T_NOT; i++) {
                turned = !turned;
                advance();
            }
            boolean fine;
            if (token == '(') {
                fine = openBracket() && test() && take(')');
                nested--;
            } else {
                fine = comparison();
            }
            if (fine && turned) {
                text.addStep('!', 0);
            }
            return fine;
        }

        private boolean openBracket() {
            if (nested >= NESTED) {
                return fail();
            }
            nested++;
            advance();
            return true;
        }

        private boolean comparison() {
            if (!sum()) {
                return false;
            }
            int sign = token;
            if (sign != '<' && sign != '>' && sign != '=') {
                return fail();
            }
            advance();
            if (!sum()) {
                return false;
            }
            text.addStep(sign, 0);
            return true;
        }

        private boolean sum() {
            if (!term()) {
                return false;
            }
            for (int i = 0; i < TAPE_ROOM && (token == '+' || token == '-'); i++) {
                int sign = token;
                advance();
                if (!term()) {
                    return false;
                }
                text.addStep(sign, 0);
            }
            return true;
        }

        private boolean term() {
            if (!part()) {
                return false;
            }
            for (int i = 0; i < TAPE_ROOM && (token == '*' || token == '/' || token == '%'); i++) {
                int sign = token;
                advance();
                if (!part()) {
                    return false;
                }
                text.addStep(sign, 0);
            }
            return true;
        }

        private boolean part() {
            if (token == '[') {
                boolean fine = openBracket() && sum() && take(']');
                nested--;
                return fine;
            }
            if (parts >= PARTS) {
                return fail();
            }
            parts++;
            if (isNumber(0, GREATEST_NUMBER)) {
                text.addStep('n', tape.values[next]);
                advance();
                return true;
            }
            return ofOrders && (token == T_SIGN || token == T_DEEP) ? placeWord() : word();
        }

        private boolean word() {
            int first = ofOrders ? T_SIGN : T_KIND;
            int last = ofOrders ? T_DEEP : T_PAGE;
            if (token < first || token > last) {
                return fail();
            }
            text.addStep('w', token - T_KIND);
            advance();
            return true;
        }

        private boolean placeWord() {
            int first = token == T_SIGN ? W_SIGN_AT : W_DEEP_AT;
            advance();
            if (!isNumber(0, ROOM - 1)) {
                return fail();
            }
            text.addStep('w', first + tape.values[next]);
            advance();
            return true;
        }
    }

    /** Works out the sums and tests of a text. */
    private static final class Sums {
        private static final long BEYOND = GREATEST_SUM + 1L;

        boolean broken = false;
        private final int[] stack = new int[PARTS + 1];

        /** What the steps from a place on come to; a test tells 1 or 0. 0, if it is broken. */
        int of(Text text, int start, int[] words) {
            broken = false;
            int top = 0;
            int skipped = start;
            for (int i = start; i < text.size; i++) {
                int step = text.steps[i];
                int value = text.values[i];
                if (i < skipped) {
                    continue;
                }
                if (top < taken(step) || top >= stack.length) {
                    break;
                }
                switch (step) {
                    case '.': return stack[top - 1];
                    case 'n': stack[top] = value; top++; break;
                    case 'w': stack[top] = words[value]; top++; break;
                    case '!': stack[top - 1] = 1 - stack[top - 1]; break;
                    case '|':
                    case '&':
                        // What is so ends an "or", what is not ends an "and"; else it is used up.
                        if (stack[top - 1] == (step == '|' ? 1 : 0)) {
                            skipped = value;
                        } else {
                            top--;
                        }
                        break;
                    default:
                        top--;
                        long result = combined(step, stack[top - 1], stack[top]);
                        if (result > GREATEST_SUM || result < -GREATEST_SUM) {
                            broken = true;
                            return 0;
                        }
                        stack[top - 1] = (int) result;
                        break;
                }
            }
            broken = true;
            return 0;
        }

        /** How many numbers a step takes from the stack. */
        private static int taken(int step) {
            switch (step) {
                case 'n':
                case 'w': return 0;
                case '.':
                case '!':
                case '|':
                case '&': return 1;
                default: return 2;
            }
        }

        private static long combined(int step, long left, long right) {
            switch (step) {
                case '+': return left + right;
                case '-': return left - right;
                case '*': return left * right;
                case '/': return right == 0 ? BEYOND : left / right;
                case '%': return right == 0 ? BEYOND : left % right;
                case '<': return left < right ? 1 : 0;
                case '>': return left > right ? 1 : 0;
                default: return left == right ? 1 : 0;
            }
        }
    }

    /** Asks laws of a sign and a place. */
    private static final class Asker {
        private final Sums sums = new Sums();
        private final int[] words = new int[W_ALL];
        private int told = 0;

        /** What a sign costs, strikes for, is worth. */
        int amount(State state, Text law, int what, int sign, int place) {
            if (law == null) {
                return 1;
            }
            look(state, sign, place);
            for (int c = law.clauses - 1; c >= 0; c--) {
                if (law.kinds[c] == what && holds(law, c)) {
                    return Math.max(0, Math.min(GREATEST_AMOUNT, told));
                }
            }
            return 1;
        }

        boolean isBarred(State state, Text law, int sign, int place) {
            if (law == null) {
                return false;
            }
            look(state, sign, place);
            for (int c = 0; c < law.clauses; c++) {
                if (law.kinds[c] == BARS && holds(law, c)) {
                    return true;
                }
            }
            return false;
        }

        private void look(State state, int sign, int place) {
            words[W_KIND] = Row.kindOf(sign);
            words[W_OPEN] = Row.opens(sign) ? 1 : 0;
            words[W_PERSON] = Row.personOf(sign);
            words[W_PLACE] = place;
            words[W_MOOD] = state.terms[MOOD_TERM];
            words[W_SIGN] = sign;
            words[W_LENGTH] = state.row.length;
            words[W_PAGE] = state.terms[PAGE_TERM];
        }

        private boolean holds(Text law, int c) {
            if (law.tests[c] != NONE && sums.of(law, law.tests[c], words) == 0) {
                return false;
            }
            if (law.firsts[c] == NONE) {
                return true;
            }
            told = sums.of(law, law.firsts[c], words);
            return !sums.broken;
        }
    }

    /** What is done to a state by hand or by orders, and the latest of it, to be undone. */
    private static final class Deeds {
        int size = 0;
        final Asker asker;
        private final State state;
        private final int[] kinds = new int[UNDOABLE];
        private final int[] places = new int[UNDOABLE];
        private final int[] signs = new int[UNDOABLE];

        Deeds(State state, Asker asker) {
            this.state = state;
            this.asker = asker;
        }

        void forget() {
            size = 0;
        }

        void copyFrom(Deeds other) {
            size = other.size;
            System.arraycopy(other.kinds, 0, kinds, 0, UNDOABLE);
            System.arraycopy(other.places, 0, places, 0, UNDOABLE);
            System.arraycopy(other.signs, 0, signs, 0, UNDOABLE);
        }

        int putSign(int sign, int place) {
            if (sign < 0 || sign >= SIGNS) {
                return BAD_NUMBER;
            }
            if (place < 0 || place > state.row.length) {
                return NOT_THERE;
            }
            Text law = state.lawOf(state.force);
            if (asker.isBarred(state, law, sign, place)) {
                return CANT_BE;
            }
            if (state.row.length >= ROOM) {
                return NO_ROOM;
            }
            int cost = asker.amount(state, law, COSTS, sign, place);
            state.row.insert(sign, place);
            remember(PUT, place, sign);
            return cost;
        }

        int cutSign(int place) {
            if (!state.row.has(place)) {
                return NOT_THERE;
            }
            int sign = state.row.signs[place];
            int toll = asker.amount(state, state.lawOf(state.force), STRIKES, sign, place);
            state.row.remove(place);
            remember(CUT, place, sign);
            return toll;
        }

        int turnSign(int place, int sign) {
            if (sign < 0 || sign >= SIGNS) {
                return BAD_NUMBER;
            }
            if (!state.row.has(place)) {
                return NOT_THERE;
            }
            int was = state.row.signs[place];
            if (was == sign || asker.isBarred(state, state.lawOf(state.force), sign, place)) {
                return CANT_BE;
            }
            state.row.replace(place, sign);
            remember(TURN, place, was);
            return was;
        }

        int passPage() {
            if (state.terms[PAGE_TERM] >= LAST_PAGE) {
                return CANT_BE;
            }
            state.terms[PAGE_TERM]++;
            remember(PASS, 0, 0);
            return state.terms[PAGE_TERM];
        }

        int undoLatest() {
            if (size == 0) {
                return CANT_BE;
            }
            size--;
            switch (kinds[size]) {
                case PUT: state.row.remove(places[size]); break;
                case CUT: state.row.insert(signs[size], places[size]); break;
                case TURN: state.row.replace(places[size], signs[size]); break;
                default: state.terms[PAGE_TERM]--; break;
            }
            return kinds[size];
        }

        private void remember(int kind, int place, int sign) {
            if (size == UNDOABLE) {
                size--;
                System.arraycopy(kinds, 1, kinds, 0, size);
                System.arraycopy(places, 1, places, 0, size);
                System.arraycopy(signs, 1, signs, 0, size);
            }
            kinds[size] = kind;
            places[size] = place;
            signs[size] = sign;
            size++;
        }
    }

    /** Runs orders wholly or not at all. */
    private static final class Runner {
        int done = 0;
        private final State state;
        private final Deeds deeds;
        private final State stateBefore = new State();
        private final Deeds deedsBefore;
        private final Sums sums = new Sums();
        private final int[] words = new int[W_ALL];
        private int latest = NONE;

        Runner(State state, Deeds deeds) {
            this.state = state;
            this.deeds = deeds;
            deedsBefore = new Deeds(stateBefore, deeds.asker);
        }

        /** Which clause could not be; NONE if all could. */
        int runWhole(Text text) {
            stateBefore.copyFrom(state);
            deedsBefore.copyFrom(deeds);
            done = 0;
            latest = NONE;
            for (int c = 0; c < text.clauses; c++) {
                for (int time = 0; time < text.times[c]; time++) {
                    if (!runOnce(text, c)) {
                        state.copyFrom(stateBefore);
                        deeds.copyFrom(deedsBefore);
                        return c;
                    }
                }
            }
            return NONE;
        }

        /** One time of a clause; false, if it can't be. */
        private boolean runOnce(Text text, int c) {
            look();
            // A broken test comes to 0, too.
            if (text.tests[c] != NONE && sums.of(text, text.tests[c], words) == 0) {
                return true;
            }
            int first = text.firsts[c] == NONE ? 0 : sums.of(text, text.firsts[c], words);
            if (text.firsts[c] != NONE && sums.broken) {
                return false;
            }
            int second = text.seconds[c] == NONE ? 0 : sums.of(text, text.seconds[c], words);
            if (text.seconds[c] != NONE && sums.broken) {
                return false;
            }
            int told;
            switch (text.kinds[c]) {
                case PUT:
                    told = deeds.putSign(first, second);
                    latest = told;
                    break;
                case CUT: told = deeds.cutSign(first); break;
                case TURN: told = deeds.turnSign(first, second); break;
                default: told = deeds.passPage(); break;
            }
            done++;
            return told >= 0;
        }

        private void look() {
            words[W_LENGTH] = state.row.length;
            words[W_PAGE] = state.terms[PAGE_TERM];
            words[W_DONE] = done;
            words[W_LATEST] = latest;
            words[W_LOOSE] = state.row.looseOnes();
            for (int p = 0; p < ROOM; p++) {
                boolean has = state.row.has(p);
                words[W_SIGN_AT + p] = has ? state.row.signs[p] : NONE;
                words[W_DEEP_AT + p] = has ? state.row.depthOf(p) : NONE;
            }
        }
    }

    /** What is worked out on paper: nothing here changes the house. */
    private static final class Paper {
        // Above every sum that can be, and so low that three of them can be added.
        private static final int NEVER = 100000000;
        // Costs come first, signs second: one number holds both, as 20 signs are the most.
        private static final int BY_COST = 100;

        int mendCost = 0;
        int mendSigns = 0;
        int runLength = 0;
        int runFirst = NONE;
        int surplus = 0;
        int takenFirst = 0;
        int hideCost = 0;
        int hideKind = 0;
        int hideOpens = 0;
        int hideCloses = 0;
        final boolean[] struck = new boolean[ROOM];
        private final Asker asker;
        private final Row trial = new Row();
        private final int[][] prices = new int[BRACKETS][ROOM + 1];
        private final int[][] best = new int[ROOM + 2][ROOM + 2];
        private final int[] stakes = new int[ROOM];
        private final int[] open = new int[ROOM];

        Paper(Asker asker) {
            this.asker = asker;
        }

        private void priceAll(State state, Text law) {
            for (int sign = 0; sign < BRACKETS; sign++) {
                for (int gap = 0; gap <= state.row.length; gap++) {
                    prices[sign][gap] = asker.isBarred(state, law, sign, gap)
                        ? NEVER
                        : asker.amount(state, law, COSTS, sign, gap);
                }
            }
        }

        private void stakeAll(State state, int what) {
            Text law = state.lawOf(state.force);
            for (int p = 0; p < state.row.length; p++) {
                stakes[p] = asker.amount(state, law, what, state.row.signs[p], p);
            }
        }

        /** Whether the row can be mended by a law. */
        boolean mends(State state, Text law) {
            priceAll(state, law);
            int length = state.row.length;
            for (int to = 0; to <= length; to++) {
                best[to][to] = 0;
                for (int from = to - 1; from >= 0; from--) {
                    best[from][to] = mendRun(state.row.signs, from, to);
                }
            }
            mendCost = best[0][length] / BY_COST;
            mendSigns = best[0][length] % BY_COST;
            return best[0][length] < NEVER;
        }

        /**
         * The least for the places from .. to - 1. A pair of two new signs never helps, so
         * what stands first is the sign at from or a new one that pairs with one of the run.
         */
        private int mendRun(int[] signs, int from, int to) {
            int sign = signs[from];
            int least = NEVER;
            if (Row.isName(sign)) {
                least = best[from + 1][to];
            } else if (Row.opens(sign)) {
                least = mendOpening(signs, from, to);
            }
            for (int k = from; k < to; k++) {
                if (Row.closes(signs[k])) {
                    int opening = newSign(Row.kindOf(signs[k]), from);
                    least = Math.min(least, opening + best[from][k] + best[k + 1][to]);
                }
            }
            return Math.min(least, NEVER);
        }

        private int mendOpening(int[] signs, int from, int to) {
            int closing = signs[from] + KINDS;
            int least = NEVER;
            for (int k = from + 1; k <= to; k++) {
                int within = best[from + 1][k];
                least = Math.min(least, within + newSign(closing, k) + best[k][to]);
                if (k < to && signs[k] == closing) {
                    least = Math.min(least, within + best[k + 1][to]);
                }
            }
            return least;
        }

        private int newSign(int sign, int gap) {
            return prices[sign][gap] == NEVER ? NEVER : prices[sign][gap] * BY_COST + 1;
        }

        /** The least for which signs are struck out so that the rest is whole. */
        int strikes(State state) {
            stakeAll(state, STRIKES);
            int length = state.row.length;
            for (int to = 0; to <= length; to++) {
                best[to][to] = 0;
                for (int from = to - 1; from >= 0; from--) {
                    best[from][to] = strikeRun(state.row.signs, from, to);
                }
            }
            return best[0][length];
        }

        private int strikeRun(int[] signs, int from, int to) {
            int least = best[from + 1][to] + (Row.isName(signs[from]) ? 0 : stakes[from]);
            if (Row.opens(signs[from])) {
                for (int k = from + 1; k < to; k++) {
                    if (signs[k] == signs[from] + KINDS) {
                        least = Math.min(least, best[from + 1][k] + best[k + 1][to]);
                    }
                }
            }
            return least;
        }

        /** Which signs are struck out; strikes() has to be asked ahead of it. */
        void chooseStruck(Row row) {
            int top = 0;
            int to = row.length;
            for (int p = 0; p < row.length; p++) {
                struck[p] = false;
                if (p == to && top > 0) {
                    top--;
                    to = open[top];
                } else if (Row.opens(row.signs[p])) {
                    int mate = chooseMate(row.signs, p, to);
                    if (mate == NONE) {
                        struck[p] = true;
                    } else {
                        open[top] = to;
                        top++;
                        to = mate;
                    }
                } else {
                    struck[p] = Row.closes(row.signs[p]);
                }
            }
        }

        private int chooseMate(int[] signs, int from, int to) {
            for (int k = from + 1; k < to; k++) {
                if (signs[k] == signs[from] + KINDS && best[from + 1][k] + best[k + 1][to] == best[from][to]) {
                    return k;
                }
            }
            return NONE;
        }

        void findRun(Row row) {
            runLength = 0;
            runFirst = NONE;
            for (int first = 0; first < row.length; first++) {
                for (int last = row.length - 1; last - first >= runLength; last--) {
                    if (row.isWhole(first, last)) {
                        runLength = last - first + 1;
                        runFirst = first;
                    }
                }
            }
        }

        int fitting(Row row, int place) {
            trial.copyFrom(row);
            int fit = 0;
            for (int sign = 0; sign < BRACKETS; sign++) {
                trial.replace(place, sign);
                if (trial.isWhole(0, trial.length - 1)) {
                    fit |= 1 << sign;
                }
            }
            return fit;
        }

        void play(State state) {
            stakeAll(state, WORTH);
            int length = state.row.length;
            takenFirst = 0;
            for (int to = 0; to <= length; to++) {
                best[to][to] = 0;
                for (int from = to - 1; from >= 0; from--) {
                    int byFirst = stakes[from] - best[from + 1][to];
                    int byLast = stakes[to - 1] - best[from][to - 1];
                    best[from][to] = Math.max(byFirst, byLast);
                    // What stays is that of the whole row, which comes last.
                    takenFirst = byLast > byFirst ? 1 : 0;
                }
            }
            surplus = best[0][length];
        }

        /** Whether there is a pair of signs that hides people. */
        boolean hides(State state, int people) {
            Row row = state.row;
            int first = row.length;
            int last = NONE;
            for (int p = 0; p < row.length; p++) {
                if (isOneOf(people, row.signs[p]) && row.depthOf(p) == 0) {
                    first = Math.min(first, p);
                    last = p;
                }
            }
            if (last == NONE) {
                return false;
            }
            priceAll(state, state.lawOf(state.force));
            hideCost = NEVER;
            for (int opens = 0; opens <= first; opens++) {
                for (int closes = last + 1; closes <= row.length; closes++) {
                    if (row.isWhole(opens, closes - 1)) {
                        tryHiding(opens, closes);
                    }
                }
            }
            return hideCost < NEVER;
        }

        private static boolean isOneOf(int people, int sign) {
            return Row.isName(sign) && (people >> Row.personOf(sign) & 1) == 1;
        }

        private void tryHiding(int opens, int closes) {
            for (int kind = 0; kind < KINDS; kind++) {
                int cost = prices[kind][opens] + prices[kind + KINDS][closes];
                // Places come in order, so that of equal ones the lowest stays.
                if (cost < hideCost || cost == hideCost && kind < hideKind) {
                    hideCost = cost;
                    hideKind = kind;
                    hideOpens = opens;
                    hideCloses = closes;
                }
            }
        }
    }

    /** Counts and numbers whole rows, and tells how likely they are. */
    private static final class Numbering {
        private static final long ALL_PARTS = 1000000000000L;

        // How many rows of so many signs go on, when so many pairs are open.
        private final long[][] ways = new long[2 * GREATEST_PAIRS + 1][GREATEST_PAIRS + 2];
        private final int[] open = new int[GREATEST_PAIRS + 1];
        private final long[] parts = new long[GREATEST_LIKELY + 2];
        private final long[] partsNext = new long[GREATEST_LIKELY + 2];

        private void findWays(int signs, int deep) {
            Arrays.fill(ways[0], 0L);
            ways[0][0] = 1;
            for (int left = 1; left <= signs; left++) {
                for (int height = 0; height <= deep; height++) {
                    long further = height < deep ? KINDS * ways[left - 1][height + 1] : 0;
                    long nearer = height > 0 ? ways[left - 1][height - 1] : 0;
                    ways[left][height] = further + nearer;
                }
            }
        }

        long howMany(int pairs, int deep) {
            findWays(2 * pairs, deep);
            return ways[2 * pairs][0];
        }

        /** The sign at a place of the row of a number. */
        int signOf(int pairs, int deep, long number, int place) {
            if (number < 0 || number >= howMany(pairs, deep)) {
                return NONE;
            }
            long rest = number;
            int height = 0;
            int sign = NONE;
            for (int p = 0; p <= place; p++) {
                long each = height < deep ? ways[2 * pairs - p - 1][height + 1] : 0;
                if (each > 0 && rest < KINDS * each) {
                    sign = (int) (rest / each);
                    rest -= sign * each;
                    open[height] = sign;
                    height++;
                } else if (height > 0) {
                    rest -= KINDS * each;
                    height--;
                    sign = open[height] + KINDS;
                }
            }
            return sign;
        }

        long numberOf(Row row, int deep) {
            if (!row.isAllWhole()) {
                return NONE;
            }
            findWays(row.length, deep);
            long number = 0;
            int height = 0;
            for (int p = 0; p < row.length; p++) {
                int sign = row.signs[p];
                long each = height < deep ? ways[row.length - p - 1][height + 1] : 0;
                if (Row.isName(sign) || Row.opens(sign) && height >= deep) {
                    return NONE;
                }
                number += Math.min(sign, KINDS) * each;
                height += Row.opens(sign) ? 1 : -1;
            }
            return number;
        }

        long likelihood(int signs) {
            Arrays.fill(parts, 0L);
            parts[0] = ALL_PARTS;
            for (int i = 0; i < signs; i++) {
                Arrays.fill(partsNext, 0L);
                for (int height = 0; height <= i; height++) {
                    partsNext[height + 1] += parts[height] * 3 / 6;
                    if (height > 0) {
                        partsNext[height - 1] += parts[height] / 6;
                    }
                }
                System.arraycopy(partsNext, 0, parts, 0, parts.length);
            }
            return parts[0];
        }
    }
}
