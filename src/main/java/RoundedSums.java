import java.util.NoSuchElementException;

/** Small programs of rounded steps against what they would be without rounding; see ../shared/DOC.md. */
public final class RoundedSums {
    public static final int NONE = -1;
    public static final long NOTHING = Long.MIN_VALUE;

    private static final int MOST_BYTES = 500;
    private static final int MOST_INPUTS = 3;
    private static final int MOST_STEPS = 12;
    private static final int MOST_VARIABLES = MOST_INPUTS + MOST_STEPS;
    private static final int MOST_OPERANDS = 4;
    /** A step by * brings most: four by P and one by rounding. */
    private static final int MOST_NOISES = MOST_INPUTS + 5 * MOST_STEPS;
    private static final int MOST_NUMBER = 1000;
    private static final int MOST_GRID = 8;
    private static final int MOST_FINE = 8;
    private static final long MOST_WEIGHT = 1_000_000L;
    private static final int MOST_LIMIT = 1_000_000;
    private static final long MOST_POINTS_TOLD = 999_999_999L;
    private static final long MOST_POINTS_TRIED = 2000L;
    private static final int MOST_SPLITS = 40;
    private static final int MOST_CLIMBS = 10;
    private static final int MOST_MOVES = 40;
    private static final int MOST_DRAWN = 200;
    private static final int SEEDS = 65_537;

    private static final int NOT_SUCH = -2;
    /** Of VARIABLES as bits. */
    private static final int EVERY = -1;

    private static final int INPUT = -2;
    private static final int PLUS = 0;
    private static final int MINUS = 1;
    private static final int TIMES = 2;
    private static final int PICK = 3;

    private static final int BY_INPUT = 0;
    private static final int BY_P = 1;
    private static final int BY_J = 2;
    private static final int BY_ROUNDING = 3;

    private static final int EXACT_THEN = 1;
    private static final int EXACT_ELSE = 2;
    private static final int COMPUTED_THEN = 4;
    private static final int COMPUTED_ELSE = 8;
    private static final int UP = 16;
    private static final int DOWN = 32;

    private static final int NO_TROUBLE = 0;
    private static final int NONE_SUCH = 1;
    private static final int BAD_NUMBER = 2;
    private static final int TOO_MANY = 3;
    private static final int FAULTY = 4;
    private static final int NOT_SO = 5;

    private static final int FORM = 1;
    private static final int BOUNDS = 2;
    private static final int NAME = 3;
    private static final int MANY = 4;
    private static final int GREAT = 5;
    private static final int LACKS = 6;

    private final byte[] tape = new byte[MOST_BYTES];
    private final int[] thePoint = new int[MOST_VARIABLES];
    private final Reader reader = new Reader();
    private final Forms forms = new Forms();
    private final Pieces pieces = new Pieces();
    private final Seeker seeker = new Seeker();
    private Program current = new Program();
    /** Changes are tried on it; it becomes the current one only when they hold. */
    private Program spare = new Program();
    private int tapeLength;
    private int troubleNumber;
    private int faultNumber;
    private int faultPlace;

    public RoundedSums() {
        tapeLength = 0;
        troubleNumber = NO_TROUBLE;
        faultNumber = 0;
        faultPlace = NONE;
    }

    // ---- the program

    public int feed(int a, int b, int c, int d, int e) {
        if (tapeLength + 20 > MOST_BYTES) {
            return NONE;
        }
        putBytes(a);
        putBytes(b);
        putBytes(c);
        putBytes(d);
        putBytes(e);
        return tapeLength;
    }

    public int program(int n) {
        if (n < 0 || n > tapeLength) {
            return none(BAD_NUMBER);
        }
        tapeLength = 0;
        boolean good = reader.read(tape, n, spare);
        faultNumber = reader.faultNumber;
        faultPlace = reader.faultPlace;
        if (!good) {
            return none(FAULTY);
        }
        takeSpare();
        for (int i = 0; i < current.inputs; i++) {
            int v = current.inputAt[i];
            thePoint[v] = current.from[v];
        }
        troubleNumber = NO_TROUBLE;
        return current.count;
    }

    public int fault() {
        return faultNumber;
    }

    public int where() {
        return troubleNumber == FAULTY ? faultPlace : NONE;
    }

    public int about(int what) {
        if (current.count == 0 || what < 0 || what > 4) {
            return none(NONE_SUCH);
        }
        troubleNumber = NO_TROUBLE;
        switch (what) {
            case 0:
                return current.count;
            case 1:
                return current.inputs;
            case 2:
                return current.steps();
            case 3:
                return forms.noises;
            default:
                return (int) Math.min(current.points(), MOST_POINTS_TOLD);
        }
    }

    public long variable(int v, int what) {
        if (!current.has(v) || what < 0 || what > 6) {
            return nothing(NONE_SUCH);
        }
        troubleNumber = NO_TROUBLE;
        boolean input = current.isInput(v);
        switch (what) {
            case 0:
                return input ? 1 : 0;
            case 1:
                return input ? current.from[v] : 0;
            case 2:
                return input ? current.to[v] : 0;
            case 3:
                return current.sign[v];
            case 4:
                return input ? NOT_SUCH : current.gridOf[v];
            case 5:
                return current.fineOf[v];
            default:
                return current.weightOf[v];
        }
    }

    public int operand(int v, int operand) {
        if (!current.isStep(v) || operand < 0 || operand >= current.operands(v)) {
            return none(NONE_SUCH);
        }
        troubleNumber = NO_TROUBLE;
        return current.operandVariable[v * MOST_OPERANDS + operand];
    }

    // ---- at a point

    public boolean set(int v, int n) {
        if (!current.isInput(v)) {
            return refused(NONE_SUCH);
        }
        if (n < current.from[v] || n > current.to[v]) {
            return refused(BAD_NUMBER);
        }
        troubleNumber = NO_TROUBLE;
        thePoint[v] = n;
        return true;
    }

    public long at(int v, int what) {
        if (!current.has(v) || what < 0 || what > 2) {
            return nothing(NONE_SUCH);
        }
        troubleNumber = NO_TROUBLE;
        Run run = seeker.run;
        run.reckonAt(current, thePoint, v);
        switch (what) {
            case 0:
                return run.exact[v];
            case 1:
                return run.computed[v];
            default:
                return run.computed[v] - run.exact[v];
        }
    }

    public int went(int v) {
        if (!current.isStep(v)) {
            return none(NONE_SUCH);
        }
        if (!current.isPick(v)) {
            return none(NOT_SO);
        }
        troubleNumber = NO_TROUBLE;
        seeker.run.reckonAt(current, thePoint, v);
        return seeker.run.ways(current, v);
    }

    // ---- forms

    public long form(int v, boolean drift, int noise) {
        if (!current.has(v) || noise < -1 || noise >= forms.noises) {
            return nothing(NONE_SUCH);
        }
        troubleNumber = NO_TROUBLE;
        Form told = forms.formOf(v, drift);
        return noise == -1 ? told.middle : told.numbers[noise];
    }

    public long reach(int v, boolean drift, int what) {
        if (!current.has(v) || what < 0 || what > 2) {
            return nothing(NONE_SUCH);
        }
        troubleNumber = NO_TROUBLE;
        Form told = forms.formOf(v, drift);
        switch (what) {
            case 0:
                return told.least();
            case 1:
                return told.greatest();
            default:
                return told.radius();
        }
    }

    public long bound(int v) {
        if (!current.has(v)) {
            return nothing(NONE_SUCH);
        }
        troubleNumber = NO_TROUBLE;
        return forms.boundOf(v);
    }

    public int noise(int noise, int what) {
        if (current.count == 0 || noise < 0 || noise >= forms.noises || what < 0 || what > 1) {
            return none(NONE_SUCH);
        }
        troubleNumber = NO_TROUBLE;
        return what == 0 ? forms.bringer[noise] : forms.broughtBy[noise];
    }

    public int shared(int v, int w) {
        if (!current.has(v) || !current.has(w)) {
            return none(NONE_SUCH);
        }
        troubleNumber = NO_TROUBLE;
        return forms.sharedBy(v, w);
    }

    public long part(int v, int step) {
        if (!current.has(v) || !current.isStep(step)) {
            return nothing(NONE_SUCH);
        }
        troubleNumber = NO_TROUBLE;
        return forms.partOf(v, step);
    }

    public int blame(int v) {
        if (!current.has(v)) {
            return none(NONE_SUCH);
        }
        troubleNumber = NO_TROUBLE;
        return forms.blamed(current, v);
    }

    public int may(int v) {
        if (!current.isStep(v)) {
            return none(NONE_SUCH);
        }
        if (!current.isPick(v)) {
            return none(NOT_SO);
        }
        troubleNumber = NO_TROUBLE;
        return forms.mayOf[v];
    }

    // ---- split, sought

    public long split(int v, int n, int what) {
        if (!current.has(v) || what < 0 || what > 1) {
            return nothing(NONE_SUCH);
        }
        if (n < 0 || n > MOST_SPLITS) {
            return nothing(BAD_NUMBER);
        }
        troubleNumber = NO_TROUBLE;
        pieces.begin(current, v);
        boolean more = true;
        for (int i = 0; i < n && more; i++) {
            more = pieces.splitWorst();
        }
        return what == 0 ? pieces.greatestBound() : pieces.living();
    }

    public int splits(int v, int limit) {
        if (!current.has(v)) {
            return none(NONE_SUCH);
        }
        if (!isLimit(limit)) {
            return none(BAD_NUMBER);
        }
        troubleNumber = NO_TROUBLE;
        pieces.begin(current, v);
        for (int n = 0; n <= MOST_SPLITS; n++) {
            if (pieces.greatestBound() <= limit) {
                return n;
            }
            if (n == MOST_SPLITS || !pieces.splitWorst()) {
                return NOT_SUCH;
            }
        }
        return NOT_SUCH;
    }

    public long climb(int v, int n, int seed) {
        if (!current.has(v)) {
            return nothing(NONE_SUCH);
        }
        if (n < 1 || n > MOST_CLIMBS || !isSeed(seed)) {
            return nothing(BAD_NUMBER);
        }
        troubleNumber = NO_TROUBLE;
        seeker.seek(current, v, n, seed);
        return seeker.greatest;
    }

    public long witness(int v, int n, int seed, int input) {
        if (!current.has(v)) {
            return nothing(NONE_SUCH);
        }
        if (n < 1 || n > MOST_CLIMBS || !isSeed(seed)) {
            return nothing(BAD_NUMBER);
        }
        if (!current.isInput(input)) {
            return nothing(NONE_SUCH);
        }
        troubleNumber = NO_TROUBLE;
        seeker.seek(current, v, n, seed);
        return seeker.best[input];
    }

    public long worst(int v) {
        if (!current.has(v)) {
            return nothing(NONE_SUCH);
        }
        if (current.points() > MOST_POINTS_TRIED) {
            return nothing(TOO_MANY);
        }
        troubleNumber = NO_TROUBLE;
        return seeker.greatestOfAll(current, v);
    }

    public int parts(int v, int n, int seed) {
        if (!current.isStep(v)) {
            return none(NONE_SUCH);
        }
        if (!current.isPick(v)) {
            return none(NOT_SO);
        }
        if (n < 1 || n > MOST_DRAWN || !isSeed(seed)) {
            return none(BAD_NUMBER);
        }
        troubleNumber = NO_TROUBLE;
        return seeker.firstParting(current, v, n, seed);
    }

    public int finer(int v, int limit) {
        if (!current.has(v)) {
            return none(NONE_SUCH);
        }
        if (!isLimit(limit)) {
            return none(BAD_NUMBER);
        }
        troubleNumber = NO_TROUBLE;
        Forms paper = pieces.paper;
        spare.copy(current);
        for (int times = 0; times <= MOST_STEPS * MOST_GRID; times++) {
            paper.reckon(spare, spare.needsOf[v]);
            if (paper.boundOf(v) <= limit) {
                return times;
            }
            int step = paper.blamed(spare, v);
            if (!spare.isStep(step) || spare.gridOf[step] == 0) {
                return NOT_SUCH;
            }
            spare.gridOf[step]--;
            spare.settleAll();
        }
        return NOT_SUCH;
    }

    // ---- acts

    public int grid(int v, int k) {
        if (!current.isStep(v)) {
            return none(NONE_SUCH);
        }
        if (k < 0 || k > MOST_GRID) {
            return none(BAD_NUMBER);
        }
        int before = current.gridOf[v];
        spare.copy(current);
        spare.gridOf[v] = k;
        if (!spare.settleAll()) {
            return none(NOT_SO);
        }
        takeSpare();
        troubleNumber = NO_TROUBLE;
        return before;
    }

    public boolean range(int v, int from, int to) {
        if (!current.isInput(v)) {
            return refused(NONE_SUCH);
        }
        if (!isNumber(from) || !isEndOf(from, to)) {
            return refused(BAD_NUMBER);
        }
        spare.copy(current);
        spare.from[v] = from;
        spare.to[v] = to;
        if (!spare.settleAll()) {
            return refused(NOT_SO);
        }
        takeSpare();
        thePoint[v] = from;
        troubleNumber = NO_TROUBLE;
        return true;
    }

    // ---- what is told

    public int doubtful(int i) throws NoSuchElementException {
        int seen = 0;
        for (int v = 0; v < current.count; v++) {
            if (current.isPick(v) && (forms.mayOf[v] & (UP | DOWN)) != 0) {
                if (seen == i) {
                    return v;
                }
                seen++;
            }
        }
        throw new NoSuchElementException("no such step");
    }

    public int size() {
        return tapeLength;
    }

    public int trouble() {
        return troubleNumber;
    }

    // ---- helpers

    private int none(int number) {
        troubleNumber = number;
        return NONE;
    }

    private long nothing(int number) {
        troubleNumber = number;
        return NOTHING;
    }

    private boolean refused(int number) {
        troubleNumber = number;
        return false;
    }

    private void putBytes(int four) {
        for (int shift = 24; shift >= 0 && tapeLength < MOST_BYTES; shift -= 8) {
            tape[tapeLength] = (byte) (four >> shift);
            tapeLength++;
        }
    }

    private void takeSpare() {
        Program before = current;
        current = spare;
        spare = before;
        forms.reckon(current, EVERY);
    }

    private static boolean isSeed(int seed) {
        return seed >= 0 && seed < SEEDS;
    }

    private static boolean isLimit(int limit) {
        return limit >= 0 && limit <= MOST_LIMIT;
    }

    private static boolean isNumber(int n) {
        return n >= -MOST_NUMBER && n <= MOST_NUMBER;
    }

    /** Whether an INPUT from a number within bounds may go to this one. */
    private static boolean isEndOf(int from, int to) {
        return isNumber(to) && to >= from && (to - from) % 2 == 0;
    }

    /** A PROGRAM: rows by VARIABLE, of OPERANDS four to each. */
    private static final class Program {
        final int[] sign = new int[MOST_VARIABLES];
        final int[] nameOf = new int[MOST_VARIABLES];
        final int[] from = new int[MOST_VARIABLES];
        final int[] to = new int[MOST_VARIABLES];
        final int[] gridOf = new int[MOST_VARIABLES];
        final int[] fineOf = new int[MOST_VARIABLES];
        final long[] weightOf = new long[MOST_VARIABLES];
        /** As bits: the VARIABLE itself and all by which it is reckoned. */
        final int[] needsOf = new int[MOST_VARIABLES];
        /** The VARIABLE, or NOT_SUCH of a NUMBER. */
        final int[] operandVariable = new int[MOST_VARIABLES * MOST_OPERANDS];
        final int[] operandNumber = new int[MOST_VARIABLES * MOST_OPERANDS];
        final int[] inputAt = new int[MOST_INPUTS];
        int count;
        int inputs;

        void copy(Program other) {
            System.arraycopy(other.sign, 0, sign, 0, MOST_VARIABLES);
            System.arraycopy(other.nameOf, 0, nameOf, 0, MOST_VARIABLES);
            System.arraycopy(other.from, 0, from, 0, MOST_VARIABLES);
            System.arraycopy(other.to, 0, to, 0, MOST_VARIABLES);
            System.arraycopy(other.gridOf, 0, gridOf, 0, MOST_VARIABLES);
            System.arraycopy(other.fineOf, 0, fineOf, 0, MOST_VARIABLES);
            System.arraycopy(other.weightOf, 0, weightOf, 0, MOST_VARIABLES);
            System.arraycopy(other.needsOf, 0, needsOf, 0, MOST_VARIABLES);
            System.arraycopy(other.operandVariable, 0, operandVariable, 0, MOST_VARIABLES * MOST_OPERANDS);
            System.arraycopy(other.operandNumber, 0, operandNumber, 0, MOST_VARIABLES * MOST_OPERANDS);
            System.arraycopy(other.inputAt, 0, inputAt, 0, MOST_INPUTS);
            count = other.count;
            inputs = other.inputs;
        }

        int steps() {
            return count - inputs;
        }

        boolean has(int v) {
            return v >= 0 && v < count;
        }

        boolean isInput(int v) {
            return v >= 0 && v < count && sign[v] == INPUT;
        }

        boolean isStep(int v) {
            return v >= 0 && v < count && sign[v] != INPUT;
        }

        boolean isPick(int v) {
            return v >= 0 && v < count && sign[v] == PICK;
        }

        int operands(int v) {
            return isPick(v) ? 4 : 2;
        }

        boolean needs(int v, int w) {
            return (needsOf[v] >> w & 1) != 0;
        }

        /** The VARIABLE that bears a name, or NONE. */
        int named(int name) {
            for (int v = 0; v < count; v++) {
                if (nameOf[v] == name) {
                    return v;
                }
            }
            return NONE;
        }

        void tellInput(int name, int least, int most) {
            if (count >= MOST_VARIABLES || inputs >= MOST_INPUTS) {
                return;
            }
            int v = count;
            sign[v] = INPUT;
            nameOf[v] = name;
            from[v] = least;
            to[v] = most;
            gridOf[v] = 0;
            inputAt[inputs] = v;
            inputs++;
            count++;
            settle(v);
        }

        /** Of the STEP that will be told next. */
        void tellOperand(int i, int variable, int number) {
            if (count >= MOST_VARIABLES || i < 0 || i >= MOST_OPERANDS) {
                return;
            }
            operandVariable[count * MOST_OPERANDS + i] = variable;
            operandNumber[count * MOST_OPERANDS + i] = number;
        }

        /** Its OPERANDS are told ahead. False if its WEIGHT is too great. */
        boolean tellStep(int name, int by, int grid) {
            if (count >= MOST_VARIABLES) {
                return false;
            }
            int v = count;
            sign[v] = by;
            nameOf[v] = name;
            from[v] = 0;
            to[v] = 0;
            gridOf[v] = grid;
            count++;
            return settle(v);
        }

        /** What follows from the others told, of all; false if a WEIGHT is too great: those behind it stay unsettled. */
        boolean settleAll() {
            for (int v = 0; v < count; v++) {
                if (!settle(v)) {
                    return false;
                }
            }
            return true;
        }

        private boolean settle(int v) {
            needsOf[v] = 1 << v;
            if (isInput(v)) {
                fineOf[v] = 0;
                weightOf[v] = Math.max(Math.abs(from[v]), Math.abs(to[v]));
                return true;
            }
            for (int i = 0; i < operands(v); i++) {
                int w = operandVariable[v * MOST_OPERANDS + i];
                needsOf[v] |= w >= 0 ? needsOf[w] : 0;
            }
            fineOf[v] = Math.max(reckonedFine(v), gridOf[v]);
            weightOf[v] = reckonedWeight(v) + (1L << gridOf[v]);
            return weightOf[v] <= MOST_WEIGHT;
        }

        /** FINE of a STEP ahead of its rounding. */
        int reckonedFine(int v) {
            if (sign[v] == PICK) {
                return Math.min(operandFine(v, 2), operandFine(v, 3));
            }
            int first = operandFine(v, 0);
            int second = operandFine(v, 1);
            return sign[v] == TIMES ? Math.min(first + second, MOST_FINE) : Math.min(first, second);
        }

        private int operandFine(int v, int i) {
            int w = operandVariable[v * MOST_OPERANDS + i];
            if (w >= 0) {
                return fineOf[w];
            }
            int rest = operandNumber[v * MOST_OPERANDS + i];
            int fine = 0;
            while (fine < MOST_FINE && rest % 2 == 0) {
                rest /= 2;
                fine++;
            }
            return fine;
        }

        private long reckonedWeight(int v) {
            if (sign[v] == PICK) {
                return 2 * (operandWeight(v, 2) + operandWeight(v, 3));
            }
            long first = operandWeight(v, 0);
            long second = operandWeight(v, 1);
            return sign[v] == TIMES ? first * second : first + second;
        }

        private long operandWeight(int v, int i) {
            int w = operandVariable[v * MOST_OPERANDS + i];
            if (w >= 0) {
                return weightOf[w];
            }
            int n = operandNumber[v * MOST_OPERANDS + i];
            return n < 0 ? -n : n;
        }

        /** An OPERAND's number, those of VARIABLES being known. */
        long operandIn(long[] known, int v, int i) {
            int w = operandVariable[v * MOST_OPERANDS + i];
            return w >= 0 ? known[w] : operandNumber[v * MOST_OPERANDS + i];
        }

        long points() {
            long all = 1;
            for (int i = 0; i < inputs; i++) {
                int v = inputAt[i];
                all *= to[v] - from[v] + 1;
            }
            return all;
        }
    }

    /** Reads THE TEXT from the left, one TOKEN in sight, up to the first FAULT. */
    private static final class Reader {
        private static final int END = 0;
        private static final int BAD = 1;
        private static final int WORD = 2;
        private static final int WHOLE = 3;

        int faultNumber;
        int faultPlace;
        private byte[] text;
        private int end;
        private Program draft;
        /** END, BAD, WORD, WHOLE, or the byte itself of a single one. */
        private int kind;
        private int place;
        private int after;
        /** Of a WHOLE what it is, of a WORD its letters in one number. */
        private int meaning;
        private int number;
        /** The place of its WHOLE, not of its -. */
        private int numberPlace;
        private int newName;
        private int by;

        boolean read(byte[] bytes, int n, Program into) {
            text = bytes;
            end = n;
            draft = into;
            draft.count = 0;
            draft.inputs = 0;
            faultNumber = 0;
            faultPlace = NONE;
            after = 0;
            advance();
            for (int lines = 0; lines <= MOST_BYTES; lines++) {
                if (!readLine()) {
                    return false;
                }
                if (kind == END) {
                    return draft.steps() > 0 || fail(LACKS, place);
                }
                if (!skipSign(';')) {
                    return false;
                }
            }
            return fail(FORM, place);
        }

        private boolean fail(int which, int at) {
            faultNumber = which;
            faultPlace = at;
            return false;
        }

        private boolean readLine() {
            if (reads("input")) {
                if (draft.inputs >= MOST_INPUTS) {
                    return fail(MANY, place);
                }
                advance();
                return readInput();
            }
            if (!reads("let")) {
                return fail(FORM, place);
            }
            if (draft.steps() >= MOST_STEPS) {
                return fail(MANY, place);
            }
            advance();
            int namePlace = place;
            if (!readNewName() || !skipSign('=')) {
                return false;
            }
            boolean reckoned = reads("pick") ? readPick() : readSum();
            return reckoned && readGrid(namePlace);
        }

        private boolean readInput() {
            if (!readNewName() || !skipWord("from") || !readNumber()) {
                return false;
            }
            int from = number;
            if (!skipWord("to")) {
                return false;
            }
            if (!readNumber()) {
                return false;
            }
            if (!isEndOf(from, number)) {
                return fail(BOUNDS, numberPlace);
            }
            draft.tellInput(newName, from, number);
            return true;
        }

        private boolean readPick() {
            by = PICK;
            advance();
            return readOperand(0) && skipSign('<') && readOperand(1)
                    && skipWord("then") && readOperand(2)
                    && skipWord("else") && readOperand(3);
        }

        private boolean readSum() {
            if (!readOperand(0)) {
                return false;
            }
            if (kind == '+') {
                by = PLUS;
            } else if (kind == '-') {
                by = MINUS;
            } else if (kind == '*') {
                by = TIMES;
            } else {
                return fail(FORM, place);
            }
            advance();
            return readOperand(1);
        }

        private boolean readGrid(int namePlace) {
            if (!skipWord("round")) {
                return false;
            }
            if (kind != WHOLE) {
                return fail(FORM, place);
            }
            if (meaning > MOST_GRID) {
                return fail(BOUNDS, place);
            }
            int grid = meaning;
            advance();
            return draft.tellStep(newName, by, grid) || fail(GREAT, namePlace);
        }

        private boolean readNewName() {
            if (!seesName()) {
                return fail(FORM, place);
            }
            if (draft.named(meaning) != NONE) {
                return fail(NAME, place);
            }
            newName = meaning;
            advance();
            return true;
        }

        private boolean readOperand(int i) {
            if (!seesName()) {
                if (!readNumber()) {
                    return false;
                }
                draft.tellOperand(i, NOT_SUCH, number);
                return true;
            }
            int v = draft.named(meaning);
            if (v == NONE) {
                return fail(NAME, place);
            }
            draft.tellOperand(i, v, 0);
            advance();
            return true;
        }

        private boolean readNumber() {
            boolean below = kind == '-';
            if (below) {
                advance();
            }
            if (kind != WHOLE) {
                return fail(FORM, place);
            }
            number = below ? -meaning : meaning;
            numberPlace = place;
            if (!isNumber(number)) {
                return fail(BOUNDS, place);
            }
            advance();
            return true;
        }

        private boolean skipWord(String word) {
            if (!reads(word)) {
                return fail(FORM, place);
            }
            advance();
            return true;
        }

        private boolean skipSign(char single) {
            if (kind != single) {
                return fail(FORM, place);
            }
            advance();
            return true;
        }

        private boolean seesName() {
            return kind == WORD
                    && !reads("input") && !reads("from") && !reads("to") && !reads("let")
                    && !reads("round") && !reads("pick") && !reads("then") && !reads("else");
        }

        /** Whether the TOKEN in sight is this WORD. */
        private boolean reads(String word) {
            if (kind != WORD || after - place != word.length()) {
                return false;
            }
            for (int i = 0; i < word.length(); i++) {
                if (text[place + i] != word.charAt(i)) {
                    return false;
                }
            }
            return true;
        }

        private void advance() {
            while (after < end && text[after] == ' ') {
                after++;
            }
            place = after;
            meaning = 0;
            if (place >= end) {
                kind = END;
                return;
            }
            int first = text[place];
            if (first >= 'a' && first <= 'z') {
                takeRun('a', 'z', 27, 1);
                kind = after - place <= 6 ? WORD : BAD;
            } else if (first >= '0' && first <= '9') {
                takeRun('0', '9', 10, 0);
                kind = after - place <= 4 ? WHOLE : BAD;
            } else {
                after++;
                kind = isSingle(first) ? first : BAD;
            }
        }

        /** Bytes that stand together, as the digits of one number; what is too long wraps around and isn't used. */
        private void takeRun(int low, int high, int base, int least) {
            while (after < end && text[after] >= low && text[after] <= high) {
                meaning = meaning * base + (text[after] - low + least);
                after++;
            }
        }

        private static boolean isSingle(int sign) {
            return sign == ';' || sign == '=' || sign == '+' || sign == '-' || sign == '*' || sign == '<';
        }
    }

    /** A MIDDLE and a number by each NOISE; from used on all numbers are 0. */
    private static final class Form {
        final long[] numbers = new long[MOST_NOISES];
        long middle;
        private int used;

        void become(long alone) {
            for (int i = 0; i < used; i++) {
                numbers[i] = 0;
            }
            used = 0;
            middle = alone;
        }

        void add(Form other, long times) {
            middle += times * other.middle;
            addNumbers(other, times);
        }

        void addNumbers(Form other, long times) {
            for (int i = 0; i < other.used; i++) {
                numbers[i] += times * other.numbers[i];
            }
            used = used >= other.used ? used : other.used;
        }

        void addNoise(int which, long number) {
            if (which < 0 || which >= MOST_NOISES) {
                return;
            }
            numbers[which] += number;
            used = used > which ? used : which + 1;
        }

        long radius() {
            long all = 0;
            for (int i = 0; i < used; i++) {
                all += numbers[i] < 0 ? -numbers[i] : numbers[i];
            }
            return all;
        }

        long least() {
            return middle - radius();
        }

        long greatest() {
            return middle + radius();
        }
    }

    /** VALUE and DRIFT of the VARIABLES of a PROGRAM, and the NOISES that they brought. */
    private static final class Forms {
        final int[] mayOf = new int[MOST_VARIABLES];
        final int[] bringer = new int[MOST_NOISES];
        final int[] broughtBy = new int[MOST_NOISES];
        int noises;
        private final Form[] values = new Form[MOST_VARIABLES];
        private final Form[] drifts = new Form[MOST_VARIABLES];
        private final Form[] operandNumbers = new Form[MOST_OPERANDS];
        private final Form nil = new Form();
        private final Form test = new Form();
        private final Form testDrift = new Form();
        private final Form up = new Form();
        private final Form down = new Form();
        private final Form[] candidates = new Form[4];
        private int candidateCount;

        Forms() {
            for (int v = 0; v < MOST_VARIABLES; v++) {
                values[v] = new Form();
                drifts[v] = new Form();
            }
            for (int i = 0; i < MOST_OPERANDS; i++) {
                operandNumbers[i] = new Form();
            }
        }

        /** Of the VARIABLES wanted, as bits; those by which they are reckoned must be wanted, too. */
        void reckon(Program program, int wanted) {
            noises = 0;
            for (int i = 0; i < program.inputs; i++) {
                reckonInput(program, program.inputAt[i]);
            }
            for (int v = 0; v < program.count; v++) {
                if ((wanted >> v & 1) == 0) {
                    continue;
                }
                switch (program.sign[v]) {
                    case PLUS:
                        reckonSum(program, v, 1);
                        break;
                    case MINUS:
                        reckonSum(program, v, -1);
                        break;
                    case TIMES:
                        reckonProduct(program, v);
                        break;
                    case PICK:
                        reckonPick(program, v);
                        break;
                    default:
                        continue;
                }
                int grid = program.gridOf[v];
                if (program.reckonedFine(v) < grid) {
                    bring(drifts[v], 1L << (grid - 1), v, BY_ROUNDING);
                }
            }
        }

        Form formOf(int v, boolean drift) {
            return drift ? drifts[v] : values[v];
        }

        long boundOf(int v) {
            long middle = drifts[v].middle;
            return (middle < 0 ? -middle : middle) + drifts[v].radius();
        }

        int sharedBy(int v, int w) {
            int both = 0;
            for (int i = 0; i < noises; i++) {
                if (drifts[v].numbers[i] != 0 && drifts[w].numbers[i] != 0) {
                    both++;
                }
            }
            return both;
        }

        long partOf(int v, int step) {
            long all = 0;
            for (int i = 0; i < noises; i++) {
                if (bringer[i] == step) {
                    all += Math.abs(drifts[v].numbers[i]);
                }
            }
            return all;
        }

        int blamed(Program program, int v) {
            int most = NOT_SUCH;
            long greatest = 0;
            for (int step = 0; step <= v; step++) {
                if (!program.isStep(step)) {
                    continue;
                }
                long its = partOf(v, step);
                if (its > greatest) {
                    greatest = its;
                    most = step;
                }
            }
            return most;
        }

        private int newNoise(int v, int by) {
            if (noises >= MOST_NOISES) {
                return NONE;
            }
            bringer[noises] = v;
            broughtBy[noises] = by;
            noises++;
            return noises - 1;
        }

        private void bring(Form to, long number, int v, int by) {
            if (number != 0) {
                to.addNoise(newNoise(v, by), number);
            }
        }

        private Form valueIn(Program program, int v, int i) {
            int w = program.operandVariable[v * MOST_OPERANDS + i];
            if (w >= 0) {
                return values[w];
            }
            Form alone = operandNumbers[i];
            alone.become(program.operandNumber[v * MOST_OPERANDS + i]);
            return alone;
        }

        private Form driftIn(Program program, int v, int i) {
            int w = program.operandVariable[v * MOST_OPERANDS + i];
            return w >= 0 ? drifts[w] : nil;
        }

        private void reckonInput(Program program, int v) {
            int half = (program.to[v] - program.from[v]) / 2;
            values[v].become(program.from[v] + half);
            // An INPUT's NOISE has its number even when it is alone on its point.
            values[v].addNoise(newNoise(v, BY_INPUT), half);
            drifts[v].become(0);
            mayOf[v] = 0;
        }

        private void reckonSum(Program program, int v, int times) {
            values[v].become(0);
            values[v].add(valueIn(program, v, 0), 1);
            values[v].add(valueIn(program, v, 1), times);
            drifts[v].become(0);
            drifts[v].add(driftIn(program, v, 0), 1);
            drifts[v].add(driftIn(program, v, 1), times);
            mayOf[v] = 0;
        }

        private void reckonProduct(Program program, int v) {
            Form first = valueIn(program, v, 0);
            Form second = valueIn(program, v, 1);
            Form firstDrift = driftIn(program, v, 0);
            Form secondDrift = driftIn(program, v, 1);
            values[v].become(0);
            addProduct(values[v], first, second, v);
            drifts[v].become(0);
            addProduct(drifts[v], first, secondDrift, v);
            addProduct(drifts[v], firstDrift, second, v);
            addProduct(drifts[v], firstDrift, secondDrift, v);
            mayOf[v] = 0;
        }

        /** P of two, added to a third. */
        private void addProduct(Form to, Form one, Form other, int v) {
            to.add(other, one.middle);
            to.addNumbers(one, other.middle);
            bring(to, one.radius() * other.radius(), v, BY_P);
        }

        private void reckonPick(Program program, int v) {
            int ways = waysOf(program, v);
            mayOf[v] = ways;
            Form then = valueIn(program, v, 2);
            Form other = valueIn(program, v, 3);
            Form thenDrift = driftIn(program, v, 2);
            Form otherDrift = driftIn(program, v, 3);
            candidateCount = 0;
            offer((ways & EXACT_THEN) != 0, then);
            offer((ways & EXACT_ELSE) != 0, other);
            join(values[v], v);
            candidateCount = 0;
            offer((ways & EXACT_THEN) != 0 && (ways & COMPUTED_THEN) != 0, thenDrift);
            offer((ways & EXACT_ELSE) != 0 && (ways & COMPUTED_ELSE) != 0, otherDrift);
            becomeLeap(up, other, otherDrift, then);
            offer((ways & UP) != 0, up);
            becomeLeap(down, then, thenDrift, other);
            offer((ways & DOWN) != 0, down);
            join(drifts[v], v);
        }

        private int waysOf(Program program, int v) {
            test.become(0);
            test.add(valueIn(program, v, 0), 1);
            test.add(valueIn(program, v, 1), -1);
            testDrift.become(0);
            testDrift.add(driftIn(program, v, 0), 1);
            testDrift.add(driftIn(program, v, 1), -1);
            long low = test.least();
            long high = test.greatest();
            long less = testDrift.least();
            long more = testDrift.greatest();
            int ways = 0;
            ways |= low < 0 ? EXACT_THEN : 0;
            ways |= high >= 0 ? EXACT_ELSE : 0;
            ways |= low + less < 0 ? COMPUTED_THEN : 0;
            ways |= high + more >= 0 ? COMPUTED_ELSE : 0;
            ways |= Math.max(low, -more) <= Math.min(high, -1) ? UP : 0;
            ways |= Math.max(low, 0) <= Math.min(high, -less - 1) ? DOWN : 0;
            return ways;
        }

        /** The error if COMPUTED goes one way and EXACT the other one. */
        private void becomeLeap(Form leap, Form computedWay, Form computedDrift, Form exactWay) {
            leap.become(0);
            leap.add(computedWay, 1);
            leap.add(computedDrift, 1);
            leap.add(exactWay, -1);
        }

        private void offer(boolean mayBe, Form candidate) {
            if (mayBe && candidateCount < candidates.length) {
                candidates[candidateCount] = candidate;
                candidateCount++;
            }
        }

        /** The only candidate itself, J of more. */
        private void join(Form to, int v) {
            to.become(0);
            if (candidateCount == 0) {
                return;
            }
            if (candidateCount == 1) {
                to.add(candidates[0], 1);
                return;
            }
            long least = candidates[0].least();
            long greatest = candidates[0].greatest();
            for (int i = 1; i < candidateCount; i++) {
                least = Math.min(least, candidates[i].least());
                greatest = Math.max(greatest, candidates[i].greatest());
            }
            // The shift cuts downwards, below 0 too.
            to.middle = (least + greatest) >> 1;
            bring(to, greatest - to.middle, v, BY_J);
        }
    }

    /** EXACT and COMPUTED at a POINT. */
    private static final class Run {
        final long[] exact = new long[MOST_VARIABLES];
        final long[] computed = new long[MOST_VARIABLES];

        /** Of a VARIABLE and those by which it is reckoned. */
        void reckonAt(Program program, int[] point, int asked) {
            for (int v = 0; v <= asked; v++) {
                if (!program.needs(asked, v)) {
                    continue;
                }
                if (program.sign[v] == INPUT) {
                    exact[v] = point[v];
                    computed[v] = point[v];
                } else {
                    exact[v] = unrounded(program, v, exact);
                    computed[v] = rounded(unrounded(program, v, computed), program.gridOf[v]);
                }
            }
        }

        long errorSize(int v) {
            return Math.abs(computed[v] - exact[v]);
        }

        /** Of a pick: 1 if EXACT goes THEN, 2 more if COMPUTED does. */
        int ways(Program program, int v) {
            return (goesThen(program, v, exact) ? 1 : 0) + (goesThen(program, v, computed) ? 2 : 0);
        }

        private static boolean goesThen(Program program, int v, long[] known) {
            return program.operandIn(known, v, 0) < program.operandIn(known, v, 1);
        }

        private static long unrounded(Program program, int v, long[] known) {
            long first = program.operandIn(known, v, 0);
            long second = program.operandIn(known, v, 1);
            switch (program.sign[v]) {
                case PLUS:
                    return first + second;
                case MINUS:
                    return first - second;
                case TIMES:
                    return first * second;
                default:
                    return program.operandIn(known, v, first < second ? 2 : 3);
            }
        }

        private static long rounded(long n, int grid) {
            long step = 1L << grid;
            long above = n & (step - 1);
            long below = n - above;
            boolean odd = (below & step) != 0;
            if (2 * above > step || 2 * above == step && odd) {
                return below + step;
            }
            return below;
        }
    }

    /** The PIECES that splitting makes, in the order in which they are made. */
    private static final class Pieces {
        private static final int MOST_MADE = 1 + 2 * MOST_SPLITS;
        private static final long GONE = -1;

        /** Free for others between two questions. */
        final Forms paper = new Forms();
        private final Program ranged = new Program();
        private final int[] from = new int[MOST_MADE * MOST_INPUTS];
        private final int[] to = new int[MOST_MADE * MOST_INPUTS];
        /** GONE of a PIECE that was split. */
        private final long[] boundOf = new long[MOST_MADE];
        private int made;
        private int splitCount;
        private int asked;

        void begin(Program whole, int v) {
            ranged.copy(whole);
            asked = v;
            made = 0;
            splitCount = 0;
            for (int i = 0; i < ranged.inputs; i++) {
                from[i] = ranged.from[ranged.inputAt[i]];
                to[i] = ranged.to[ranged.inputAt[i]];
            }
            keepMade();
        }

        int living() {
            return 1 + splitCount;
        }

        long greatestBound() {
            return boundOf[worstPiece()];
        }

        /** False, and nothing is split, if the worst PIECE has no INPUT for it. */
        boolean splitWorst() {
            int piece = worstPiece();
            int i = widestInput(piece);
            if (i == NONE || made + 2 > MOST_MADE) {
                return false;
            }
            int slot = piece * MOST_INPUTS + i;
            int middle = from[slot] + (to[slot] - from[slot]) / 2;
            copyToNext(piece);
            to[made * MOST_INPUTS + i] = middle;
            keepMade();
            copyToNext(piece);
            from[made * MOST_INPUTS + i] = middle;
            keepMade();
            boundOf[piece] = GONE;
            splitCount++;
            return true;
        }

        private void copyToNext(int piece) {
            System.arraycopy(from, piece * MOST_INPUTS, from, made * MOST_INPUTS, MOST_INPUTS);
            System.arraycopy(to, piece * MOST_INPUTS, to, made * MOST_INPUTS, MOST_INPUTS);
        }

        /** The PIECE whose ranges stand in the next rows is made: its BOUND. */
        private void keepMade() {
            for (int i = 0; i < ranged.inputs; i++) {
                int v = ranged.inputAt[i];
                ranged.from[v] = from[made * MOST_INPUTS + i];
                ranged.to[v] = to[made * MOST_INPUTS + i];
            }
            paper.reckon(ranged, ranged.needsOf[asked]);
            boundOf[made] = paper.boundOf(asked);
            made++;
        }

        private int worstPiece() {
            int worst = 0;
            for (int piece = 1; piece < made; piece++) {
                if (boundOf[piece] > boundOf[worst]) {
                    worst = piece;
                }
            }
            return worst;
        }

        private int widestInput(int piece) {
            int widest = NONE;
            int greatest = 0;
            for (int i = 0; i < ranged.inputs; i++) {
                int width = to[piece * MOST_INPUTS + i] - from[piece * MOST_INPUTS + i];
                if (width > greatest && width % 4 == 0) {
                    widest = i;
                    greatest = width;
                }
            }
            return widest;
        }
    }

    /** Looks at POINTS: drawn, climbed to, or all of them. */
    private static final class Seeker {
        long greatest;
        final int[] best = new int[MOST_VARIABLES];
        private final int[] point = new int[MOST_VARIABLES];
        /** Free for others between two questions. */
        final Run run = new Run();
        private int seed;

        /** The greatest ERROR to which one climbs, and the first POINT of it. */
        void seek(Program program, int v, int n, int from) {
            seed = from;
            greatest = -1;
            for (int i = 0; i < n; i++) {
                drawPoint(program);
                long error = climbed(program, v);
                if (error > greatest) {
                    greatest = error;
                    System.arraycopy(point, 0, best, 0, MOST_VARIABLES);
                }
            }
        }

        long greatestOfAll(Program program, int v) {
            for (int i = 0; i < program.inputs; i++) {
                point[program.inputAt[i]] = program.from[program.inputAt[i]];
            }
            long most = errorHere(program, v);
            for (int i = 0; i < MOST_POINTS_TRIED && goOn(program); i++) {
                most = Math.max(most, errorHere(program, v));
            }
            return most;
        }

        int firstParting(Program program, int v, int n, int from) {
            seed = from;
            for (int i = 0; i < n; i++) {
                drawPoint(program);
                run.reckonAt(program, point, v);
                int ways = run.ways(program, v);
                if (ways == 1 || ways == 2) {
                    return i;
                }
            }
            return NOT_SUCH;
        }

        private int draw(int m) {
            seed = (75 * seed + 74) % SEEDS;
            return m > 0 ? seed % m : 0;
        }

        private void drawPoint(Program program) {
            for (int i = 0; i < program.inputs; i++) {
                int v = program.inputAt[i];
                point[v] = program.from[v] + draw(program.to[v] - program.from[v] + 1);
            }
        }

        private long errorHere(Program program, int v) {
            run.reckonAt(program, point, v);
            return run.errorSize(v);
        }

        /** The POINT behind this one, the first INPUT going fastest; false behind the last. */
        private boolean goOn(Program program) {
            for (int i = 0; i < program.inputs; i++) {
                int v = program.inputAt[i];
                if (point[v] < program.to[v]) {
                    point[v]++;
                    return true;
                }
                point[v] = program.from[v];
            }
            return false;
        }

        private long climbed(Program program, int v) {
            long error = errorHere(program, v);
            for (int moves = 0; moves < MOST_MOVES; moves++) {
                long next = moved(program, v, error);
                if (next <= error) {
                    return error;
                }
                error = next;
            }
            return error;
        }

        /** Makes the first move by which the ERROR grows: what it is then; as it was without one. */
        private long moved(Program program, int v, long error) {
            for (int i = 0; i < program.inputs; i++) {
                int input = program.inputAt[i];
                if (!program.needs(v, input)) {
                    continue;
                }
                int here = point[input];
                for (int far = 256; far >= 1; far /= 2) {
                    for (int to = here + far; to >= here - far; to -= 2 * far) {
                        if (to < program.from[input] || to > program.to[input]) {
                            continue;
                        }
                        point[input] = to;
                        long next = errorHere(program, v);
                        if (next > error) {
                            return next;
                        }
                    }
                }
                point[input] = here;
            }
            return error;
        }
    }
}
