import java.util.Arrays;

/** Written words read from pen ways. README.md tells how it is used, shared/DOC.md what it promises. */
public final class PenLines {
    public static final int NONE = -1000000, BAD = -1000001, STATE = -1000002, FULL = -1000003;

    private static final int FOUND = -1000010;
    private static final int NO_SHEET = 1, NO_PLACE = 2, OTHER_KIND = 3, NO_SIZE = 4, OTHER_LANE = 5;

    private static final int SHEETS = 8, LANES = 3, ITEMS = 80;
    private static final int PIECES = 40, FARTHEST = 2000, SHAPES = 12, DOT = 12;
    private static final int FIRST_GAP = 30, WIDEST_GAP = 100, DOT_REACH = 5;

    private static final int LETTERS = 26, DOTTED_I = 8, DOTTED_J = 9;
    private static final int LONGEST_ROW = 3, MOST_OFTEN = 99, MOST_COUNT = 999;
    private static final int WORD_LETTERS = 12, LIST_WORDS = 30;

    private static final int READ_PIECES = 14, TOLD = 5, SURE_BY = 4, NO_COST = -1;
    // Above whatever a reading can cost.
    private static final int NEVER = 1000000;
    private static final int LETTER_COST = 12, PAIR_COST = 6, DOT_MISSING = 5, DOT_TOO_MANY = 4;

    private static final int INK = 0, READ = 1, SURE = 2, LISTED = 3;
    private static final int TEACHINGS = 50, CALLS = 512, TRACED = 16, NO_INK = -1;

    private final Sheets sheets = new Sheets();
    private final Line line = new Line();
    private final Counts counts = new Counts();
    private final Words words = new Words();

    // What is worked out for one ink stays in hand until something under it changes.
    private int inHand = NO_INK;
    private final Fits fits = new Fits();
    private final OpenReadings openReadings = new OpenReadings();
    private final Spelling spelling = new Spelling();
    private final ListReadings listReadings = new ListReadings();

    private final int[] begun = new int[TRACED];
    private int begunMany = 0;
    private int latestFinding = 0;

    public PenLines() {
    }

    // ---- sheets

    public int sheet(int sheet, int lane, int n) {
        if (!isSheet(sheet) || lane < 0 || lane >= LANES || n > ITEMS) {
            return BAD;
        }
        if (n < 0) {
            return found(NO_SIZE);
        }
        sheets.lay(sheet, lane, n);
        return fine(n);
    }

    public int set(int sheet, int i, int v) {
        if (!isSheet(sheet)) {
            return BAD;
        }
        if (!sheets.laid[sheet]) {
            return found(NO_SHEET);
        }
        if (!sheets.reaches(sheet, i, 1)) {
            return found(NO_PLACE);
        }
        return fine(sheets.put(sheet, i, v));
    }

    public int copy(int a, int i, int b, int j, int n) {
        if (!isSheet(a) || !isSheet(b)) {
            return BAD;
        }
        if (!sheets.laid[a] || !sheets.laid[b]) {
            return found(NO_SHEET);
        }
        if (sheets.lanes[a] != sheets.lanes[b]) {
            return found(OTHER_LANE);
        }
        if (!sheets.reaches(a, i, n) || !sheets.reaches(b, j, n)) {
            return found(NO_PLACE);
        }
        System.arraycopy(sheets.items[a], i, sheets.items[b], j, n);
        return fine(n);
    }

    public int drop(int sheet) {
        if (!isSheet(sheet)) {
            return BAD;
        }
        if (!sheets.laid[sheet]) {
            return found(NO_SHEET);
        }
        sheets.laid[sheet] = false;
        return fine(sheets.sizes[sheet]);
    }

    // ---- ink

    public int line(int sheet, int i, int n) {
        if (!isSheet(sheet) || n < 1 || n > PIECES) {
            return BAD;
        }
        if (!sheets.laid[sheet]) {
            return found(NO_SHEET);
        }
        if (!sheets.reaches(sheet, i, 2 * n)) {
            return found(NO_PLACE);
        }
        if (!sheets.holdsPieces(sheet, i, n)) {
            return BAD;
        }
        line.write(sheets.items[sheet], i, n);
        inHand = NO_INK;
        return fine(line.inks);
    }

    public int gap(int v) {
        if (v < 1 || v > WIDEST_GAP) {
            return BAD;
        }
        int was = line.gap;
        line.gap = v;
        line.part();
        inHand = NO_INK;
        return was;
    }

    public int ink(int ink, int what) {
        if (!isInk(ink)) {
            return BAD;
        }
        switch (what) {
            case 0: return line.piecesOf(ink);
            case 1: return line.firsts[ink];
            case 2: return line.dotsIn[ink];
            default: return BAD;
        }
    }

    public int piece(int ink, int k, int what) {
        if (!isInk(ink) || k < 0 || k >= line.piecesOf(ink)) {
            return BAD;
        }
        int at = line.firsts[ink] + k;
        switch (what) {
            case 0: return line.xs[at];
            case 1: return line.shapes[at];
            case 2: return line.dotsOn[at];
            default: return BAD;
        }
    }

    public int loose() {
        return line.looseDots;
    }

    // ---- letters, words

    public int form(int letter, int n, int s0, int s1, int s2, int often) {
        if (!isLetter(letter) || !isRow(n, s0, s1, s2) || often < 1 || often > MOST_OFTEN) {
            return BAD;
        }
        int slot = counts.slotMadeFor(letter, rowCode(n, s0, s1, s2));
        if (slot < 0) {
            return FULL;
        }
        inHand = NO_INK;
        return counts.raise(slot, often);
    }

    public int seen(int letter, int n, int s0, int s1, int s2) {
        if (!isLetter(letter) || !isRow(n, s0, s1, s2)) {
            return BAD;
        }
        int slot = counts.slotOf(letter, rowCode(n, s0, s1, s2));
        return slot < 0 ? 0 : counts.counts[slot];
    }

    public int pair(int a, int b, int often) {
        if (!isLetter(a) || !isLetter(b) || often < 1 || often > MOST_OFTEN) {
            return BAD;
        }
        inHand = NO_INK;
        return counts.raise(pairSlot(a, b), often);
    }

    public int letter(int letter) {
        if (!isLetter(letter)) {
            return BAD;
        }
        if (words.letters >= WORD_LETTERS) {
            return FULL;
        }
        words.append(letter);
        return words.letters;
    }

    public int list() {
        if (words.letters == 0 || words.placeOf(words.word) >= 0) {
            return STATE;
        }
        if (words.listMany >= LIST_WORDS) {
            return FULL;
        }
        int place = words.listMany;
        words.inList[place] = words.word;
        words.listMany++;
        words.clear();
        return place;
    }

    public int wipe() {
        return words.clear();
    }

    // ---- readings

    public int listed(int ink, int i, int what) {
        if (!isInk(ink) || what < 0 || what > 1) {
            return BAD;
        }
        takeInHand(ink);
        listReadings.read(fits, words, spelling);
        if (i < 0 || i >= listReadings.many) {
            return NONE;
        }
        return what == 0 ? listReadings.places[i] : listReadings.costs[i];
    }

    public int open(int ink, int i, int what) {
        if (!isInk(ink) || i < 0 || i >= TOLD || what < -2 || what >= WORD_LETTERS) {
            return BAD;
        }
        takeInHand(ink);
        if (i >= openReadings.told()) {
            return NONE;
        }
        long word = openReadings.word(i);
        int letters = lettersOf(word);
        if (what == -1) {
            return openReadings.cost(i);
        }
        if (what == -2) {
            return letters;
        }
        return what < letters ? letterAt(word, what) : NONE;
    }

    public int find(int k) {
        if (words.letters == 0) {
            return STATE;
        }
        int ahead = 0;
        for (int ink = 0; ink < line.inks; ink++) {
            takeInHand(ink);
            if (openReadings.tell(words.word)) {
                if (ahead == k) {
                    return ink;
                }
                ahead++;
            }
        }
        return NONE;
    }

    public int teach(int ink) {
        if (!isInk(ink)) {
            return BAD;
        }
        takeInHand(ink);
        if (words.letters == 0 || spelling.cost(fits, words.word) == NO_COST) {
            return STATE;
        }
        if (counts.teachings >= TEACHINGS) {
            return FULL;
        }
        spelling.chooseRows(fits, words.word);
        counts.beginTeaching();
        countReading(line.firsts[ink]);
        inHand = NO_INK;
        return words.clear();
    }

    public int unteach() {
        if (counts.teachings == 0) {
            return NONE;
        }
        counts.undoTeaching();
        inHand = NO_INK;
        return counts.teachings;
    }

    // ---- asked

    public int kind(int ink) {
        if (!isInk(ink)) {
            return BAD;
        }
        takeInHand(ink);
        return kindInHand();
    }

    public int as(int ink, int kind) {
        if (!isInk(ink) || kind < INK || kind > LISTED) {
            return BAD;
        }
        takeInHand(ink);
        if (kindInHand() < kind) {
            return found(OTHER_KIND);
        }
        return fine(line.piecesOf(ink));
    }

    public int ask(int ink, int what) {
        if (!isInk(ink) || what < 0 || what > 1) {
            return BAD;
        }
        takeInHand(ink);
        begunMany = 0;
        return what == 0 ? askSize(ink) : askMark(ink);
    }

    public int trace(int i) {
        return i < 0 || i >= begunMany ? NONE : begun[i];
    }

    public int count(int what) {
        switch (what) {
            case 0: return sheets.many();
            case 1: return line.inks;
            case 2: return line.written - line.pieces;
            case 3: return counts.formsSeen();
            case 4: return counts.pairsSeen();
            case 5: return words.listMany;
            case 6: return words.letters;
            case 7: return counts.teachings;
            default: return BAD;
        }
    }

    public int status() {
        return latestFinding;
    }

    // ---- what the calls share

    private int found(int finding) {
        latestFinding = finding;
        return FOUND - finding;
    }

    private int fine(int answer) {
        latestFinding = 0;
        return answer;
    }

    private static boolean isSheet(int sheet) {
        return sheet >= 0 && sheet < SHEETS;
    }

    private boolean isInk(int ink) {
        return ink >= 0 && ink < line.inks;
    }

    private static boolean isLetter(int letter) {
        return letter >= 0 && letter < LETTERS;
    }

    private static boolean isShape(int shape) {
        return shape >= 0 && shape < SHAPES;
    }

    private static boolean isRow(int n, int s0, int s1, int s2) {
        return n >= 1 && n <= LONGEST_ROW && isShape(s0) && (n < 2 || isShape(s1)) && (n < 3 || isShape(s2));
    }

    private static int rowCode(int n, int s0, int s1, int s2) {
        int code = rowCodeWith(0, s0);
        if (n > 1) {
            code = rowCodeWith(code, s1);
        }
        if (n > 2) {
            code = rowCodeWith(code, s2);
        }
        return code;
    }

    // Shapes are told from 1 on here, so that rows of other lengths have other codes.
    private static int rowCodeWith(int code, int shape) {
        return code * (SHAPES + 1) + shape + 1;
    }

    private static int pairSlot(int a, int b) {
        return a * LETTERS + b;
    }

    // A word is a long: its first letter in the highest five bits of sixty, from 1 on,
    // so that words stand in the order of their numbers.
    private static int wordShift(int k) {
        return 5 * (WORD_LETTERS - 1 - k);
    }

    private static int letterAt(long word, int k) {
        return (int) ((word >>> wordShift(k)) & 31L) - 1;
    }

    private static int lettersOf(long word) {
        int letters = 0;
        while (letters < WORD_LETTERS && letterAt(word, letters) >= 0) {
            letters++;
        }
        return letters;
    }

    private static long wordWith(long word, int k, int letter) {
        return word | ((long) (letter + 1) << wordShift(k));
    }

    private void takeInHand(int ink) {
        if (inHand != ink) {
            fits.take(line, ink, counts);
            openReadings.read(fits, counts);
            inHand = ink;
        }
    }

    private void countReading(int first) {
        int at = first;
        int ahead = 0;
        for (int k = 0; k < words.letters; k++) {
            int letter = letterAt(words.word, k);
            int row = spelling.rows[k];
            counts.raise(counts.slotOf(letter, line.rowCodeAt(at, row)), 1);
            if (k > 0) {
                counts.raise(pairSlot(ahead, letter), 1);
            }
            ahead = letter;
            at += row;
        }
    }

    private int kindInHand() {
        int told = openReadings.told();
        if (told == 0) {
            return INK;
        }
        if (told > 1 && openReadings.cost(1) - openReadings.cost(0) < SURE_BY) {
            return READ;
        }
        return words.placeOf(openReadings.word(0)) < 0 ? SURE : LISTED;
    }

    // ---- bodies of asks

    private void begin(int body) {
        if (begunMany < TRACED) {
            begun[begunMany] = body;
            begunMany++;
        }
    }

    private int askSize(int ink) {
        switch (kindInHand()) {
            case LISTED: return listedSize(ink);
            case SURE: return sureSize(ink);
            case READ: return readSize(ink);
            default: return inkSize(ink);
        }
    }

    private int inkSize(int ink) {
        begin(10);
        return line.piecesOf(ink);
    }

    private int readSize(int ink) {
        begin(11);
        return inkSize(ink) + openReadings.cost(0);
    }

    private int sureSize(int ink) {
        begin(12);
        return 2 * readSize(ink);
    }

    private int listedSize(int ink) {
        begin(13);
        return sureSize(ink) + askMark(ink);
    }

    private int askMark(int ink) {
        switch (kindInHand()) {
            case LISTED: return listedMark(ink);
            case SURE: return sureMark(ink);
            default: return inkMark(ink);
        }
    }

    private int inkMark(int ink) {
        begin(20);
        return line.dotsIn[ink];
    }

    private int sureMark(int ink) {
        begin(21);
        return inkMark(ink) + 100;
    }

    private int listedMark(int ink) {
        begin(22);
        return sureMark(ink) + words.placeOf(openReadings.word(0));
    }

    private static final class Sheets {
        final boolean[] laid = new boolean[SHEETS];
        final int[] lanes = new int[SHEETS];
        final int[] sizes = new int[SHEETS];
        final int[][] items = new int[SHEETS][ITEMS];

        void lay(int sheet, int lane, int n) {
            laid[sheet] = true;
            lanes[sheet] = lane;
            sizes[sheet] = n;
            Arrays.fill(items[sheet], 0);
        }

        // Written so that no sum can wrap around.
        boolean reaches(int sheet, int i, int n) {
            return i >= 0 && n >= 0 && i <= sizes[sheet] && n <= sizes[sheet] - i;
        }

        int put(int sheet, int i, int v) {
            int kept = v;
            if (lanes[sheet] == 0) {
                kept = (byte) v;
            } else if (lanes[sheet] == 1) {
                kept = (short) v;
            }
            items[sheet][i] = kept;
            return kept;
        }

        boolean holdsPieces(int sheet, int i, int n) {
            for (int k = 0; k < n; k++) {
                int x = items[sheet][i + 2 * k];
                int shape = items[sheet][i + 2 * k + 1];
                if (x < 0 || x > FARTHEST || shape < 0 || shape > DOT) {
                    return false;
                }
            }
            return true;
        }

        int many() {
            int many = 0;
            for (boolean one : laid) {
                many += one ? 1 : 0;
            }
            return many;
        }
    }

    /** THE LINE: what was written, and how it is parted now. */
    private static final class Line {
        final int[] writtenXs = new int[PIECES];
        final int[] writtenShapes = new int[PIECES];
        int written = 0;
        int gap = FIRST_GAP;

        // The pieces that are no dots, and how many dots are joined to each.
        final int[] xs = new int[PIECES];
        final int[] shapes = new int[PIECES];
        final int[] dotsOn = new int[PIECES];
        int pieces = 0;

        // One place more than there can be inks: behind the last one stands where it ends.
        final int[] firsts = new int[PIECES + 1];
        final int[] dotsIn = new int[PIECES];
        int inks = 0;
        int looseDots = 0;

        void write(int[] items, int i, int n) {
            for (int k = 0; k < n; k++) {
                writtenXs[k] = items[i + 2 * k];
                writtenShapes[k] = items[i + 2 * k + 1];
            }
            written = n;
            part();
        }

        void part() {
            gatherPieces();
            beginInks();
            joinDots();
        }

        private void gatherPieces() {
            pieces = 0;
            for (int k = 0; k < written; k++) {
                if (writtenShapes[k] != DOT) {
                    xs[pieces] = writtenXs[k];
                    shapes[pieces] = writtenShapes[k];
                    dotsOn[pieces] = 0;
                    pieces++;
                }
            }
        }

        private void beginInks() {
            inks = 0;
            for (int k = 0; k < pieces; k++) {
                if (k == 0 || xs[k] - xs[k - 1] > gap) {
                    firsts[inks] = k;
                    dotsIn[inks] = 0;
                    inks++;
                }
            }
            firsts[inks] = pieces;
        }

        private void joinDots() {
            looseDots = 0;
            for (int k = 0; k < written; k++) {
                if (writtenShapes[k] == DOT) {
                    int ink = inkUnder(writtenXs[k]);
                    if (ink == NO_INK) {
                        looseDots++;
                    } else {
                        dotsIn[ink]++;
                        dotsOn[nearestPiece(ink, writtenXs[k])]++;
                    }
                }
            }
        }

        private int inkUnder(int x) {
            for (int ink = 0; ink < inks; ink++) {
                int least = xs[firsts[ink]];
                int greatest = least;
                for (int k = firsts[ink]; k < firsts[ink + 1]; k++) {
                    least = Math.min(least, xs[k]);
                    greatest = Math.max(greatest, xs[k]);
                }
                if (x >= least - DOT_REACH && x <= greatest + DOT_REACH) {
                    return ink;
                }
            }
            return NO_INK;
        }

        private int nearestPiece(int ink, int x) {
            int nearest = firsts[ink];
            for (int k = firsts[ink]; k < firsts[ink + 1]; k++) {
                if (Math.abs(xs[k] - x) < Math.abs(xs[nearest] - x)) {
                    nearest = k;
                }
            }
            return nearest;
        }

        int piecesOf(int ink) {
            return firsts[ink + 1] - firsts[ink];
        }

        int rowCodeAt(int at, int row) {
            int code = 0;
            for (int k = at; k < at + row && k < pieces; k++) {
                code = rowCodeWith(code, shapes[k]);
            }
            return code;
        }

        boolean hasDot(int at, int row) {
            for (int k = at; k < at + row && k < pieces; k++) {
                if (dotsOn[k] > 0) {
                    return true;
                }
            }
            return false;
        }
    }

    /** COUNTS of pairs and forms, each in a slot, and what untaught teachings put back. */
    private static final class Counts {
        private static final int PAIRS = LETTERS * LETTERS;
        // A teaching raises fewer than two counts for each call that spelled its word.
        private static final int UNDOS = 2 * CALLS;

        // The pairs have the first slots; behind them the forms, as they were first told.
        final int[] counts = new int[PAIRS + CALLS];
        final int[] formLetters = new int[CALLS];
        final int[] formRows = new int[CALLS];
        int forms = 0;

        private final int[] undoSlots = new int[UNDOS];
        private final int[] undoCounts = new int[UNDOS];
        private int undos = 0;
        private final int[] undosAhead = new int[TEACHINGS];
        int teachings = 0;

        int slotOf(int letter, int rowCode) {
            for (int k = 0; k < forms; k++) {
                if (formLetters[k] == letter && formRows[k] == rowCode) {
                    return PAIRS + k;
                }
            }
            return -1;
        }

        int slotMadeFor(int letter, int rowCode) {
            int slot = slotOf(letter, rowCode);
            if (slot >= 0 || forms >= CALLS) {
                return slot;
            }
            formLetters[forms] = letter;
            formRows[forms] = rowCode;
            forms++;
            return PAIRS + forms - 1;
        }

        int raise(int slot, int often) {
            if (slot < 0 || slot >= counts.length) {
                return 0;
            }
            if (teachings > 0 && undos < UNDOS) {
                undoSlots[undos] = slot;
                undoCounts[undos] = counts[slot];
                undos++;
            }
            counts[slot] = Math.min(MOST_COUNT, counts[slot] + often);
            return counts[slot];
        }

        void beginTeaching() {
            if (teachings < TEACHINGS) {
                undosAhead[teachings] = undos;
                teachings++;
            }
        }

        void undoTeaching() {
            if (teachings > 0) {
                teachings--;
                for (int k = undos - 1; k >= undosAhead[teachings]; k--) {
                    counts[undoSlots[k]] = undoCounts[k];
                }
                undos = undosAhead[teachings];
            }
        }

        int pairCost(int a, int b) {
            return PAIR_COST / (counts[pairSlot(a, b)] + 1);
        }

        int formsSeen() {
            return seenFrom(PAIRS, PAIRS + forms);
        }

        int pairsSeen() {
            return seenFrom(0, PAIRS);
        }

        private int seenFrom(int from, int to) {
            int many = 0;
            for (int slot = from; slot < to; slot++) {
                many += counts[slot] > 0 ? 1 : 0;
            }
            return many;
        }
    }

    /** THE WORD and THE LIST. */
    private static final class Words {
        long word = 0;
        int letters = 0;
        final long[] inList = new long[LIST_WORDS];
        int listMany = 0;

        void append(int letter) {
            word = wordWith(word, letters, letter);
            letters++;
        }

        int clear() {
            int had = letters;
            word = 0;
            letters = 0;
            return had;
        }

        int placeOf(long sought) {
            for (int place = 0; place < listMany; place++) {
                if (inList[place] == sought) {
                    return place;
                }
            }
            return -1;
        }
    }

    /** For one ink: what each letter costs on each row of its pieces. */
    private static final class Fits {
        private final int[] costs = new int[READ_PIECES * LONGEST_ROW * LETTERS];
        // None for an ink that is too long to be read.
        int pieces = 0;

        void take(Line line, int ink, Counts counts) {
            pieces = line.piecesOf(ink);
            if (pieces > READ_PIECES) {
                pieces = 0;
            }
            Arrays.fill(costs, NO_COST);
            int first = line.firsts[ink];
            for (int at = 0; at < pieces; at++) {
                for (int row = 1; row <= LONGEST_ROW && at + row <= pieces; row++) {
                    int rowCode = line.rowCodeAt(first + at, row);
                    takeRow(counts, place(at, row, 0), rowCode, line.hasDot(first + at, row));
                }
            }
        }

        private void takeRow(Counts counts, int place, int rowCode, boolean dot) {
            for (int k = 0; k < counts.forms; k++) {
                int count = counts.counts[Counts.PAIRS + k];
                if (count > 0 && counts.formRows[k] == rowCode) {
                    int letter = counts.formLetters[k];
                    costs[place + letter] = LETTER_COST / (count + 1) + dotCost(letter, dot);
                }
            }
        }

        private static int dotCost(int letter, boolean dot) {
            boolean dotted = letter == DOTTED_I || letter == DOTTED_J;
            if (dotted == dot) {
                return 0;
            }
            return dotted ? DOT_MISSING : DOT_TOO_MANY;
        }

        private static int place(int at, int row, int letter) {
            return (at * LONGEST_ROW + row - 1) * LETTERS + letter;
        }

        /** NO_COST where the letter has no form of the row. */
        int cost(int at, int row, int letter) {
            return costs[place(at, row, letter)];
        }
    }

    /**
     * The first OPEN READINGS of an ink. They are made from its end: a heap holds the first five
     * rests that begin at one piece with one letter, for a letter ahead of two rests changes
     * nothing in which of them is the better one. Rests that save letters by longer rows are kept
     * apart, since of two rests only one may still fit into the letters of a word.
     */
    private static final class OpenReadings {
        // A row reaches at most to three pieces behind, so that four places are used in turn.
        private static final int PLACES = LONGEST_ROW + 1;
        private static final int SAVINGS = READ_PIECES - WORD_LETTERS + 1;
        private static final int WHOLE = PLACES * SAVINGS * LETTERS;

        private final int[] held = new int[WHOLE + 1];
        private final int[] costs = new int[(WHOLE + 1) * TOLD];
        private final long[] rests = new long[(WHOLE + 1) * TOLD];
        private int pieces = 0;
        // How many letters fewer than pieces a whole reading must have at least.
        private int toSave = 0;

        void read(Fits fits, Counts counts) {
            pieces = fits.pieces;
            toSave = Math.max(0, pieces - WORD_LETTERS);
            held[WHOLE] = 0;
            for (int at = pieces - 1; at >= 0; at--) {
                clear(heap(at, 0, 0));
                for (int row = 1; row <= LONGEST_ROW && at + row <= pieces; row++) {
                    for (int letter = 0; letter < LETTERS; letter++) {
                        int cost = fits.cost(at, row, letter);
                        if (cost != NO_COST) {
                            extend(counts, at, row, letter, cost);
                        }
                    }
                }
            }
            gatherWhole();
        }

        private static int heap(int at, int saved, int letter) {
            return ((at % PLACES) * SAVINGS + saved) * LETTERS + letter;
        }

        private void clear(int first) {
            for (int heap = first; heap < first + SAVINGS * LETTERS; heap++) {
                held[heap] = 0;
            }
        }

        private void extend(Counts counts, int at, int row, int letter, int cost) {
            if (at + row == pieces) {
                offer(heap(at, Math.min(toSave, row - 1), letter), cost, wordWith(0, 0, letter));
                return;
            }
            for (int next = 0; next < LETTERS; next++) {
                int withPair = cost + counts.pairCost(letter, next);
                for (int saved = 0; saved <= toSave; saved++) {
                    int from = heap(at + row, saved, next);
                    int to = heap(at, Math.min(toSave, saved + row - 1), letter);
                    int end = from * TOLD + held[from];
                    // The rests stand by cost: behind one that is too dear all others are, too.
                    for (int k = from * TOLD; k < end && withPair + costs[k] <= dearest(to); k++) {
                        // A rest of as many letters as a word has can have none ahead of it.
                        if (letterAt(rests[k], WORD_LETTERS - 1) < 0) {
                            offer(to, withPair + costs[k], wordWith(rests[k] >>> 5, 0, letter));
                        }
                    }
                }
            }
        }

        /** What a rest may cost to come among the first ones of a heap. */
        private int dearest(int heap) {
            return held[heap] < TOLD ? NEVER : costs[heap * TOLD + TOLD - 1];
        }

        private void gatherWhole() {
            for (int letter = 0; pieces > 0 && letter < LETTERS; letter++) {
                int from = heap(0, toSave, letter);
                for (int k = from * TOLD; k < from * TOLD + held[from]; k++) {
                    offer(WHOLE, costs[k], rests[k]);
                }
            }
        }

        private void offer(int heap, int cost, long rest) {
            int first = heap * TOLD;
            int at = placeFor(heap, cost, rest);
            if (at < first) {
                return;
            }
            for (; at > first && isAhead(cost, rest, at - 1); at--) {
                costs[at] = costs[at - 1];
                rests[at] = rests[at - 1];
            }
            costs[at] = cost;
            rests[at] = rest;
        }

        /** The place that a rest takes first, behind all better ones; -1 if it is not among the first. */
        private int placeFor(int heap, int cost, long rest) {
            int first = heap * TOLD;
            int end = first + held[heap];
            if (held[heap] == TOLD && !isAhead(cost, rest, end - 1)) {
                return -1;
            }
            for (int k = first; k < end; k++) {
                if (rests[k] == rest) {
                    return cost < costs[k] ? k : -1;
                }
            }
            if (held[heap] == TOLD) {
                return end - 1;
            }
            held[heap]++;
            return end;
        }

        private boolean isAhead(int cost, long rest, int k) {
            return cost < costs[k] || (cost == costs[k] && rest < rests[k]);
        }

        int told() {
            return held[WHOLE];
        }

        int cost(int i) {
            return costs[WHOLE * TOLD + i];
        }

        long word(int i) {
            return rests[WHOLE * TOLD + i];
        }

        boolean tell(long word) {
            for (int i = 0; i < told(); i++) {
                if (word(i) == word) {
                    return true;
                }
            }
            return false;
        }
    }

    /** One word on one ink, by THE LIST's rule. */
    private static final class Spelling {
        private static final int ENDS = READ_PIECES + 1;

        // The least cost of the letters from one on, by the pieces from one on.
        private final int[] least = new int[(WORD_LETTERS + 1) * ENDS];
        final int[] rows = new int[WORD_LETTERS];

        /** NO_COST where no reading spells the word. */
        int cost(Fits fits, long word) {
            int letters = lettersOf(word);
            Arrays.fill(least, NEVER);
            least[letters * ENDS + fits.pieces] = 0;
            for (int k = letters - 1; k >= 0; k--) {
                int letter = letterAt(word, k);
                for (int at = fits.pieces - 1; at >= 0; at--) {
                    for (int row = 1; row <= LONGEST_ROW && at + row <= fits.pieces; row++) {
                        int cost = costBy(fits, k, letter, at, row);
                        least[k * ENDS + at] = Math.min(least[k * ENDS + at], cost);
                    }
                }
            }
            return least[0] < NEVER ? least[0] : NO_COST;
        }

        private int costBy(Fits fits, int k, int letter, int at, int row) {
            int cost = fits.cost(at, row, letter);
            int rest = least[(k + 1) * ENDS + at + row];
            return cost == NO_COST || rest == NEVER ? NEVER : cost + rest;
        }

        /** Of the word whose cost was asked last: the longest rows first among those of least cost. */
        void chooseRows(Fits fits, long word) {
            int letters = lettersOf(word);
            int at = 0;
            for (int k = 0; k < letters; k++) {
                rows[k] = 0;
                for (int row = Math.min(LONGEST_ROW, fits.pieces - at); row >= 1 && rows[k] == 0; row--) {
                    if (costBy(fits, k, letterAt(word, k), at, row) == least[k * ENDS + at]) {
                        rows[k] = row;
                    }
                }
                at += rows[k];
            }
        }
    }

    /** READINGS by THE LIST, the best one first. */
    private static final class ListReadings {
        final int[] places = new int[LIST_WORDS];
        final int[] costs = new int[LIST_WORDS];
        int many = 0;

        void read(Fits fits, Words words, Spelling spelling) {
            many = 0;
            for (int place = 0; place < words.listMany; place++) {
                int cost = spelling.cost(fits, words.inList[place]);
                if (cost != NO_COST) {
                    insert(place, cost);
                }
            }
        }

        // Of equal costs the earlier place stays ahead, as the places come in order.
        private void insert(int place, int cost) {
            int at = many;
            for (; at > 0 && costs[at - 1] > cost; at--) {
                places[at] = places[at - 1];
                costs[at] = costs[at - 1];
            }
            places[at] = place;
            costs[at] = cost;
            many++;
        }
    }
}
