import java.util.Arrays;

/**
 * A verse whose lines spell a target by the letters that count on them, and all that can be asked
 * of it: the promises of ../shared/DOC.md.
 *
 * <p>No call makes an object: every row that a call needs is made with the object and used again.
 */
public final class AcrosticLines {
    public static final int NONE = -1, BAD = -2, NO = -3, FULL = -4;

    private static final int WORDS_MOST = 8;
    private static final int WORD_SETS = 256;
    private static final int WORD_BITS = 3;
    private static final int SHORTEST = 3;
    private static final int LONGEST = 6;
    private static final int LINES_MOST = 6;
    private static final int LINES_AT_FIRST = 3;
    private static final int ROW_MOST = 3;
    private static final int ROW_CELLS = 32;
    private static final int KINDS_OF_EACH = 6;
    private static final int PLACE_MOST = 5;
    private static final int COST_MOST = 20;
    private static final int SEEN_MOST = 6;
    private static final int NOTE_SIZE = 3;
    private static final int MARK_SIZE = 4;
    private static final int UNDO_MOST = 8;
    private static final int TEXT_MOST = 150;
    private static final int BYTE_MOST = 127;
    private static final int SEED_MOST = 999999;
    private static final int EVENINGS_MOST = 60;
    private static final int COUNT_MOST = 10;

    private static final int NO_WAYS = -6;
    private static final int NOT_SO_MANY = -5;
    private static final int BAD_CHOICE = -10;
    private static final int FAULT_BASE = -10;
    private static final int OTHER_STATUS = -1;

    private static final int LAST = 1, MIDDLE = 2, STEP = 3, BACK = 4, TURN = 5;
    private static final int RARE = 1, SHORT = 2, WEAK = 3, PROUD = 4, TAIL = 5;

    private static final int[] POWERS = {1, 10, 100, 1000, 10000, 100000, 1000000};

    private final Verse now = new Verse();
    private final Verse spare = new Verse();
    private final Verse imageZero = new Verse();
    private final Verse imageOne = new Verse();
    private boolean keptZero;
    private boolean keptOne;
    private final TextReader text = new TextReader();
    private final Speller speller = new Speller();
    private long above = 0;
    private long below = 1;
    private int badCalls;
    private int noCalls;
    private int fullCalls;

    public AcrosticLines() {
    }

    // ---- a verse

    public int verse(int form, int m, int target) {
        if (!isKind(form) || !within(m, 1, LINES_MOST) || !isCode(m, target)) {
            return refuse(BAD);
        }
        int were = now.wordCount;
        now.begin(form, m, target);
        return were;
    }

    public int form(int kind) {
        if (!isKind(kind)) {
            return refuse(BAD);
        }
        int was = now.formKind;
        now.formKind = kind;
        now.undoCount = 0;
        return was;
    }

    public int word(int kind, int n, int code) {
        if (!isKind(kind) || !isLength(n) || !isCode(n, code)) {
            return refuse(BAD);
        }
        if (now.knows(n, code)) {
            return refuse(NO);
        }
        if (now.wordCount >= WORDS_MOST) {
            return refuse(FULL);
        }
        now.addWord(kind, n, code);
        now.undoCount = 0;
        return now.wordCount - 1;
    }

    public int type(int c) {
        if (!within(c, 0, BYTE_MOST)) {
            return refuse(BAD);
        }
        if (text.length >= TEXT_MOST) {
            return refuse(FULL);
        }
        text.append(c);
        return text.length;
    }

    public int clear() {
        int had = text.length;
        text.length = 0;
        return had;
    }

    public int read() {
        if (!text.readInto(spare)) {
            return FAULT_BASE - text.start;
        }
        now.copyFrom(spare);
        return text.items;
    }

    // ---- lines

    public int puts(int j, int w) {
        if (!now.hasLine(j) || !now.hasWord(w)) {
            return refuse(BAD);
        }
        if (now.wordOn(j) != NONE || now.lineOf(w) != NONE) {
            return refuse(NO);
        }
        now.keepForUndo();
        set(now.lines, j, w);
        return now.isRight(j) ? 1 : 0;
    }

    public int takes(int j) {
        if (!now.hasLine(j)) {
            return refuse(BAD);
        }
        int was = now.wordOn(j);
        if (was == NONE) {
            return refuse(NO);
        }
        now.keepForUndo();
        set(now.lines, j, NONE);
        return was;
    }

    public int swaps(int j, int k) {
        if (!now.hasLine(j) || !now.hasLine(k) || j == k) {
            return refuse(BAD);
        }
        int onJ = now.wordOn(j);
        int onK = now.wordOn(k);
        if (onJ == NONE && onK == NONE) {
            return refuse(NO);
        }
        now.keepForUndo();
        set(now.lines, j, onK);
        set(now.lines, k, onJ);
        return now.rightLines();
    }

    public int undo() {
        if (now.undoCount <= 0) {
            return refuse(NO);
        }
        now.undoLast();
        return now.rightLines();
    }

    public int of(int w, int what) {
        if (!now.hasWord(w) || !within(what, 0, 3)) {
            return refuse(BAD);
        }
        switch (what) {
            case 0: return now.kindOf(w);
            case 1: return now.lengthOf(w);
            case 2: return now.codeOf(w);
            default: return now.lineOf(w);
        }
    }

    public int about(int j, int what) {
        if (!now.hasLine(j) || !within(what, 0, 4)) {
            return refuse(BAD);
        }
        int w = now.wordOn(j);
        switch (what) {
            case 0: return w;
            case 1: return w == NONE ? NONE : now.letterBy(now.formKind, w, j);
            case 2: return now.costOnLine(j);
            case 3: return now.isRight(j) ? 1 : 0;
            default: return now.targetLetter(j);
        }
    }

    // ---- how it is spelled

    public int fits(int w, int j) {
        if (!now.hasWord(w) || !now.hasLine(j)) {
            return refuse(BAD);
        }
        return now.fitsBy(now.formKind, w, j) ? 1 : 0;
    }

    public int ways() {
        speller.findFitting(now, now.formKind);
        return speller.countWays(now);
    }

    public int first(int j) {
        if (!now.hasLine(j)) {
            return refuse(BAD);
        }
        speller.findFitting(now, now.formKind);
        return speller.leastCost(now, false) == NO_WAYS ? NONE : speller.wordOfLeast(now, false, j);
    }

    public int cheap(int j) {
        if (j != NONE && !now.hasLine(j)) {
            refuse(BAD);
            return BAD_CHOICE;
        }
        speller.findFitting(now, now.formKind);
        int least = speller.leastCost(now, true);
        if (least == NO_WAYS || j == NONE) {
            return least;
        }
        return speller.wordOfLeast(now, true, j);
    }

    public int more() {
        speller.findFitting(now, now.formKind);
        speller.keepStanding(now);
        return speller.countWays(now);
    }

    public int needs(int what) {
        if (!within(what, 0, 1)) {
            return refuse(BAD);
        }
        speller.findFitting(now, now.formKind);
        int all = speller.countWays(now);
        int bits = 0;
        for (int w = 0; w < now.wordCount; w++) {
            speller.findFitting(now, now.formKind);
            speller.leaveOut(w);
            int without = speller.countWays(now);
            boolean told = what == 0 ? all > 0 && without == 0 : without == all;
            bits |= told ? 1 << w : 0;
        }
        return bits;
    }

    public int held() {
        speller.findFitting(now, now.formKind);
        return speller.mostLines(now);
    }

    public int forms() {
        int bits = 0;
        for (int kind = 0; kind < KINDS_OF_EACH; kind++) {
            speller.findFitting(now, kind);
            bits |= speller.countWays(now) > 0 ? 1 << kind : 0;
        }
        return bits;
    }

    public int rows(int n, int what) {
        if (!within(n, 1, Math.min(ROW_MOST, now.m)) || !within(what, 0, 1)) {
            return refuse(BAD);
        }
        speller.spellRows(now, n);
        return what == 0 ? speller.rowCount : speller.greatestRow;
    }

    // ---- what it is

    public int note(int n, int j, int x) {
        if (!isLength(n) || !isLineNumber(j) || !within(x, 0, PLACE_MOST)) {
            return refuse(BAD);
        }
        if (now.noteCount >= SEEN_MOST) {
            return refuse(FULL);
        }
        now.addNote(n, j, x);
        return now.noteCount;
    }

    public int mark(int w, int n, int j, int x) {
        if (!now.hasWord(w) || !isLength(n) || !isLineNumber(j) || !within(x, 0, COST_MOST)) {
            return refuse(BAD);
        }
        if (now.markCount >= SEEN_MOST) {
            return refuse(FULL);
        }
        now.addMark(w, n, j, x);
        return now.markCount;
    }

    public int forget(int what) {
        if (!within(what, 0, 1)) {
            return refuse(BAD);
        }
        int were = what == 0 ? now.noteCount : now.markCount;
        if (what == 0) {
            now.noteCount = 0;
        } else {
            now.markCount = 0;
        }
        return were;
    }

    public int is() {
        return now.formsByNotes();
    }

    public int look() {
        return bestQuestion(false, now.formsByNotes());
    }

    public int kinds(int w) {
        if (!now.hasWord(w)) {
            return refuse(BAD);
        }
        return now.kindsByMarks(w);
    }

    public int ask(int w) {
        if (!now.hasWord(w)) {
            return refuse(BAD);
        }
        return bestQuestion(true, now.kindsByMarks(w));
    }

    public int poets(int k) {
        if (k < NONE) {
            refuse(BAD);
            return BAD_CHOICE;
        }
        int resting = 0;
        int line = now.firstEmptyLine();
        for (int i = 0; i < now.wordCount && line != NONE; i++) {
            for (int j = 0; j < now.wordCount; j++) {
                if (rests(line, i, j)) {
                    if (resting == k) {
                        return 10 * i + j;
                    }
                    resting++;
                }
            }
        }
        return k == NONE ? resting : NOT_SO_MANY;
    }

    public int luck() {
        speller.findFitting(now, now.formKind);
        setFraction(speller.countWays(now), rowsOfWords(now.wordCount, now.m));
        return 1;
    }

    public int evenings(int seed, int n) {
        if (!within(seed, 0, SEED_MOST) || !within(n, 0, EVENINGS_MOST)) {
            return refuse(BAD);
        }
        spare.copyFrom(now);
        Arrays.fill(spare.lines, NONE);
        long x = seed;
        int spelled = 0;
        for (int i = 0; i < n; i++) {
            x = (x * 1103515245L + 12345L) % 2147483648L;
            playEvening(spare, x);
            spelled += spare.rightLines() == spare.m ? 1 : 0;
        }
        return spelled;
    }

    // ---- what there is

    public long part(int what) {
        if (!within(what, 0, 1)) {
            return refuse(BAD);
        }
        return what == 0 ? above : below;
    }

    public int image(int i) {
        if (!within(i, 0, 1)) {
            return refuse(BAD);
        }
        if (i == 0) {
            imageZero.copyFrom(now);
            keptZero = true;
        } else {
            imageOne.copyFrom(now);
            keptOne = true;
        }
        return 1;
    }

    public int from(int i) {
        if (!within(i, 0, 1)) {
            return refuse(BAD);
        }
        boolean kept = i == 0 ? keptZero : keptOne;
        if (!kept) {
            return refuse(NO);
        }
        now.copyFrom(i == 0 ? imageZero : imageOne);
        return 1;
    }

    public int status(int what) {
        switch (what) {
            case 0: return badCalls;
            case 1: return noCalls;
            case 2: return fullCalls;
            default:
                refuse(BAD);
                return OTHER_STATUS;
        }
    }

    public int count(int what) {
        if (!within(what, 0, COUNT_MOST)) {
            return refuse(BAD);
        }
        return howMany(what);
    }

    public long digest() {
        long h = 1861;
        for (int what = 0; what <= COUNT_MOST; what++) {
            h = 31 * h + howMany(what);
        }
        for (int w = 0; w < now.wordCount; w++) {
            h = 31 * h + now.kindOf(w);
            h = 31 * h + now.lengthOf(w);
            h = 31 * h + now.codeOf(w);
        }
        h = digestRow(h, now.lines, now.m);
        h = digestRow(h, now.notes, now.noteCount * NOTE_SIZE);
        h = digestRow(h, now.marks, now.markCount * MARK_SIZE);
        h = 31 * h + above;
        return 31 * h + below;
    }

    // ---- what the calls share

    private int refuse(int reason) {
        if (reason == BAD) {
            badCalls++;
        } else if (reason == NO) {
            noCalls++;
        } else {
            fullCalls++;
        }
        return reason;
    }

    private int howMany(int what) {
        switch (what) {
            case 0: return now.wordCount;
            case 1: return now.m;
            case 2: return now.formKind;
            case 3: return now.target;
            case 4: return now.filledLines();
            case 5: return now.rightLines();
            case 6: return now.costOfLines();
            case 7: return now.noteCount;
            case 8: return now.markCount;
            case 9: return now.undoCount;
            default: return text.length;
        }
    }

    private static long digestRow(long begun, int[] row, int many) {
        long h = begun;
        for (int i = 0; i < many; i++) {
            h = 31 * h + at(row, i);
        }
        return h;
    }

    private boolean rests(int line, int i, int j) {
        if (now.lineOf(i) != NONE || now.lineOf(j) != NONE) {
            return false;
        }
        int toFirst = gain(line, i, j);
        int toSecond = gain(line, j, i);
        for (int w = 0; w < now.wordCount; w++) {
            if (now.lineOf(w) == NONE
                    && (gain(line, w, j) > toFirst || gain(line, w, i) > toSecond)) {
                return false;
            }
        }
        return true;
    }

    private int gain(int line, int own, int other) {
        if (own == other) {
            return -1;
        }
        if (!now.fitsBy(now.formKind, own, line)) {
            return 0;
        }
        int ownCost = now.costBy(own, line);
        int otherCost = now.costBy(other, line);
        boolean ahead = ownCost < otherCost || (ownCost == otherCost && own < other);
        return ahead || !now.fitsBy(now.formKind, other, line) ? 9 - ownCost : 0;
    }

    private static void playEvening(Verse v, long x) {
        if (v.m <= 0) {
            return;
        }
        int j = (int) (x / 65536 % v.m);
        int w = (int) (x / 1048576 % 8);
        if (v.wordOn(j) != NONE) {
            set(v.lines, j, NONE);
        } else if (v.hasWord(w) && v.lineOf(w) == NONE) {
            set(v.lines, j, w);
        }
    }

    private void setFraction(long newAbove, long newBelow) {
        long shared = commonDivisor(newAbove, newBelow);
        if (newAbove <= 0 || shared <= 0) {
            above = 0;
            below = 1;
        } else {
            above = newAbove / shared;
            below = newBelow / shared;
        }
    }

    private static long commonDivisor(long one, long other) {
        long a = one;
        long b = other;
        // the parts are below 2 to the 31, for which Euclid takes fewer than 64 steps
        for (int step = 0; step < 64 && b != 0; step++) {
            long left = a % b;
            a = b;
            b = left;
        }
        return a;
    }

    /** How many rows of m unlike words of so many there are; 0, if they are too few. */
    private static int rowsOfWords(int words, int m) {
        int rows = 1;
        for (int j = 0; j < m; j++) {
            rows *= Math.max(0, words - j);
        }
        return rows;
    }

    /** Where a form (its place) or a word (its cost) is best looked at to tell the kinds in bits. */
    private static int bestQuestion(boolean ofWords, int bits) {
        int best = NONE;
        int fewest = KINDS_OF_EACH + 1;
        for (int n = SHORTEST; n <= LONGEST && bits != 0; n++) {
            for (int j = 0; j < LINES_MOST; j++) {
                int most = mostAlike(ofWords, bits, n, j);
                if (most < fewest) {
                    fewest = most;
                    best = 10 * n + j;
                }
            }
        }
        return best;
    }

    private static int mostAlike(boolean ofWords, int bits, int n, int j) {
        int most = 0;
        for (int kind = 0; kind < KINDS_OF_EACH; kind++) {
            if (hasBit(bits, kind)) {
                int said = saidBy(ofWords, kind, n, j);
                int alike = 0;
                for (int other = kind; other < KINDS_OF_EACH; other++) {
                    boolean same = hasBit(bits, other) && saidBy(ofWords, other, n, j) == said;
                    alike += same ? 1 : 0;
                }
                most = Math.max(most, alike);
            }
        }
        return most;
    }

    private static int saidBy(boolean ofWords, int kind, int n, int j) {
        return ofWords ? costOf(kind, n, j) : placeOf(kind, n, j);
    }

    private static int placeOf(int kind, int n, int j) {
        int last = n - 1;
        int step = n > 0 ? j % n : 0;
        switch (kind) {
            case LAST: return last;
            case MIDDLE: return n / 2;
            case STEP: return step;
            case BACK: return last - step;
            case TURN: return (j & 1) == 1 ? last : 0;
            default: return 0;
        }
    }

    private static int costOf(int kind, int n, int j) {
        int plain = n;
        int rare = plain + 3;
        int half = (plain + 1) / 2;
        switch (kind) {
            case RARE: return rare;
            case SHORT: return half;
            case WEAK: return plain + j;
            case PROUD: return j == 0 ? 0 : rare;
            case TAIL: return j >= 3 ? half + 2 : half;
            default: return plain;
        }
    }

    private static int letterOf(int code, int n, int place) {
        int rest = code;
        for (int behind = n - 1; behind > place; behind--) {
            rest /= 10;
        }
        return rest % 10;
    }

    private static boolean isKind(int kind) {
        return within(kind, 0, KINDS_OF_EACH - 1);
    }

    private static boolean isLength(int n) {
        return within(n, SHORTEST, LONGEST);
    }

    /** Whether some verse could have such a line: what was seen may tell of lines beyond M. */
    private static boolean isLineNumber(int j) {
        return within(j, 0, LINES_MOST - 1);
    }

    private static boolean isCode(int n, int code) {
        return code >= 0 && code < at(POWERS, n);
    }

    private static boolean within(int number, int least, int most) {
        return number >= least && number <= most;
    }

    private static boolean hasBit(int bits, int i) {
        return (bits >> i & 1) == 1;
    }

    // Every row in this file is used through these, so that no index goes unlooked at.

    private static int at(int[] row, int i) {
        return i >= 0 && i < row.length ? row[i] : 0;
    }

    private static void set(int[] row, int i, int value) {
        if (i >= 0 && i < row.length) {
            row[i] = value;
        }
    }

    private static void copyRow(int[] source, int[] goal) {
        System.arraycopy(source, 0, goal, 0, Math.min(source.length, goal.length));
    }

    /** All that an image keeps. */
    private static final class Verse {
        int formKind;
        int m = LINES_AT_FIRST;
        int target;
        int wordCount;
        int noteCount;
        int markCount;
        int undoCount;
        final int[] wordKinds = new int[WORDS_MOST];
        final int[] wordLengths = new int[WORDS_MOST];
        final int[] wordCodes = new int[WORDS_MOST];
        final int[] lines = new int[LINES_MOST];
        final int[] notes = new int[SEEN_MOST * NOTE_SIZE];
        final int[] marks = new int[SEEN_MOST * MARK_SIZE];
        final int[] undoLines = new int[UNDO_MOST * LINES_MOST];

        Verse() {
            Arrays.fill(lines, NONE);
        }

        void begin(int newForm, int newM, int newTarget) {
            formKind = newForm;
            m = newM;
            target = newTarget;
            wordCount = 0;
            noteCount = 0;
            markCount = 0;
            undoCount = 0;
            Arrays.fill(lines, NONE);
        }

        void copyFrom(Verse other) {
            formKind = other.formKind;
            m = other.m;
            target = other.target;
            wordCount = other.wordCount;
            noteCount = other.noteCount;
            markCount = other.markCount;
            undoCount = other.undoCount;
            copyRow(other.wordKinds, wordKinds);
            copyRow(other.wordLengths, wordLengths);
            copyRow(other.wordCodes, wordCodes);
            copyRow(other.lines, lines);
            copyRow(other.notes, notes);
            copyRow(other.marks, marks);
            copyRow(other.undoLines, undoLines);
        }

        boolean hasWord(int w) {
            return w >= 0 && w < wordCount;
        }

        boolean hasLine(int j) {
            return j >= 0 && j < m;
        }

        int kindOf(int w) {
            return at(wordKinds, w);
        }

        int lengthOf(int w) {
            return at(wordLengths, w);
        }

        int codeOf(int w) {
            return at(wordCodes, w);
        }

        int wordOn(int j) {
            return hasLine(j) ? at(lines, j) : NONE;
        }

        int lineOf(int w) {
            for (int j = 0; j < m; j++) {
                if (wordOn(j) == w) {
                    return j;
                }
            }
            return NONE;
        }

        boolean knows(int n, int code) {
            for (int w = 0; w < wordCount; w++) {
                if (lengthOf(w) == n && codeOf(w) == code) {
                    return true;
                }
            }
            return false;
        }

        void addWord(int kind, int n, int code) {
            set(wordKinds, wordCount, kind);
            set(wordLengths, wordCount, n);
            set(wordCodes, wordCount, code);
            wordCount++;
        }

        int targetLetter(int j) {
            return letterOf(target, m, j);
        }

        int letterBy(int form, int w, int j) {
            int n = at(wordLengths, w);
            return letterOf(at(wordCodes, w), n, placeOf(form, n, j));
        }

        boolean fitsBy(int form, int w, int j) {
            return letterBy(form, w, j) == targetLetter(j);
        }

        int costBy(int w, int j) {
            return costOf(kindOf(w), lengthOf(w), j);
        }

        int costOnLine(int j) {
            int w = wordOn(j);
            return w == NONE ? 0 : costBy(w, j);
        }

        boolean isRight(int j) {
            int w = wordOn(j);
            return w != NONE && fitsBy(formKind, w, j);
        }

        int filledLines() {
            int filled = 0;
            for (int j = 0; j < m; j++) {
                filled += wordOn(j) != NONE ? 1 : 0;
            }
            return filled;
        }

        int rightLines() {
            int right = 0;
            for (int j = 0; j < m; j++) {
                right += isRight(j) ? 1 : 0;
            }
            return right;
        }

        int costOfLines() {
            int cost = 0;
            for (int j = 0; j < m; j++) {
                cost += costOnLine(j);
            }
            return cost;
        }

        int firstEmptyLine() {
            for (int j = 0; j < m; j++) {
                if (wordOn(j) == NONE) {
                    return j;
                }
            }
            return NONE;
        }

        void keepForUndo() {
            if (undoCount >= UNDO_MOST) {
                dropOldestUndo();
            }
            for (int j = 0; j < LINES_MOST; j++) {
                set(undoLines, undoCount * LINES_MOST + j, at(lines, j));
            }
            undoCount++;
        }

        void dropOldestUndo() {
            for (int i = LINES_MOST; i < UNDO_MOST * LINES_MOST; i++) {
                set(undoLines, i - LINES_MOST, at(undoLines, i));
            }
            undoCount = UNDO_MOST - 1;
        }

        void undoLast() {
            undoCount--;
            for (int j = 0; j < LINES_MOST; j++) {
                set(lines, j, at(undoLines, undoCount * LINES_MOST + j));
            }
        }

        void addNote(int n, int j, int x) {
            int begin = noteCount * NOTE_SIZE;
            set(notes, begin, n);
            set(notes, begin + 1, j);
            set(notes, begin + 2, x);
            noteCount++;
        }

        void addMark(int w, int n, int j, int x) {
            int begin = markCount * MARK_SIZE;
            set(marks, begin, w);
            set(marks, begin + 1, n);
            set(marks, begin + 2, j);
            set(marks, begin + 3, x);
            markCount++;
        }

        int formsByNotes() {
            int bits = 0;
            for (int kind = 0; kind < KINDS_OF_EACH; kind++) {
                bits |= agreesWithNotes(kind) ? 1 << kind : 0;
            }
            return bits;
        }

        boolean agreesWithNotes(int kind) {
            for (int i = 0; i < noteCount; i++) {
                int begin = i * NOTE_SIZE;
                int place = placeOf(kind, at(notes, begin), at(notes, begin + 1));
                if (place != at(notes, begin + 2)) {
                    return false;
                }
            }
            return true;
        }

        int kindsByMarks(int w) {
            int bits = 0;
            for (int kind = 0; kind < KINDS_OF_EACH; kind++) {
                bits |= agreesWithMarks(w, kind) ? 1 << kind : 0;
            }
            return bits;
        }

        boolean agreesWithMarks(int w, int kind) {
            for (int i = 0; i < markCount; i++) {
                int begin = i * MARK_SIZE;
                int cost = costOf(kind, at(marks, begin + 1), at(marks, begin + 2));
                if (at(marks, begin) == w && cost != at(marks, begin + 3)) {
                    return false;
                }
            }
            return true;
        }
    }

    /**
     * Spells a verse over the sets of words that are used already: as the lines are gone through
     * in their order, a set of k words tells that lines 0 to k less 1 have theirs.
     */
    private static final class Speller {
        private static final int FAR = 1000000;

        private final int[] fitting = new int[LINES_MOST];
        private final int[] bySet = new int[WORD_SETS];
        private final int[] seenRows = new int[ROW_CELLS];
        int rowCount;
        int greatestRow;

        void findFitting(Verse v, int form) {
            for (int j = 0; j < v.m; j++) {
                int bits = 0;
                for (int w = 0; w < v.wordCount; w++) {
                    bits |= v.fitsBy(form, w, j) ? 1 << w : 0;
                }
                set(fitting, j, bits);
            }
        }

        void keepStanding(Verse v) {
            for (int j = 0; j < v.m; j++) {
                int w = v.wordOn(j);
                if (w != NONE) {
                    set(fitting, j, at(fitting, j) & 1 << w);
                }
            }
        }

        void leaveOut(int w) {
            for (int j = 0; j < LINES_MOST; j++) {
                set(fitting, j, at(fitting, j) & ~(1 << w));
            }
        }

        int countWays(Verse v) {
            for (int used = (1 << v.wordCount) - 1; used >= 0; used--) {
                int line = Integer.bitCount(used);
                int ways = line == v.m ? 1 : 0;
                int open = line < v.m ? at(fitting, line) & ~used : 0;
                for (int w = 0; w < v.wordCount && open != 0; w++) {
                    if (hasBit(open, w)) {
                        ways += at(bySet, used | 1 << w);
                    }
                }
                set(bySet, used, ways);
            }
            return at(bySet, 0);
        }

        /** Where costs are left out every way costs 0: its first one is the first of all. */
        int leastCost(Verse v, boolean costs) {
            for (int used = (1 << v.wordCount) - 1; used >= 0; used--) {
                int line = Integer.bitCount(used);
                int least = line == v.m ? 0 : FAR;
                int open = line < v.m ? at(fitting, line) & ~used : 0;
                for (int w = 0; w < v.wordCount && open != 0; w++) {
                    if (hasBit(open, w)) {
                        least = Math.min(least, costWith(v, costs, used, w));
                    }
                }
                set(bySet, used, least);
            }
            return at(bySet, 0) >= FAR ? NO_WAYS : at(bySet, 0);
        }

        private int costWith(Verse v, boolean costs, int used, int w) {
            int own = costs ? v.costBy(w, Integer.bitCount(used)) : 0;
            return own + at(bySet, used | 1 << w);
        }

        /** The word on line j of the first of the ways that leastCost has found. */
        int wordOfLeast(Verse v, boolean costs, int j) {
            int used = 0;
            int chosen = NONE;
            for (int line = 0; line <= j; line++) {
                chosen = nextOfLeast(v, costs, used);
                if (chosen == NONE) {
                    return NONE;
                }
                used |= 1 << chosen;
            }
            return chosen;
        }

        private int nextOfLeast(Verse v, boolean costs, int used) {
            int open = at(fitting, Integer.bitCount(used)) & ~used;
            for (int w = 0; w < v.wordCount; w++) {
                if (hasBit(open, w) && costWith(v, costs, used, w) == at(bySet, used)) {
                    return w;
                }
            }
            return NONE;
        }

        int mostLines(Verse v) {
            Arrays.fill(bySet, 0);
            set(bySet, 0, 1);
            int most = 0;
            for (int j = 0; j < v.m; j++) {
                // from the greatest set down, so that no line is counted twice
                for (int used = (1 << v.wordCount) - 1; used > 0; used--) {
                    if (at(bySet, used) == 0 && canEndWith(v, used, j)) {
                        set(bySet, used, 1);
                        most = Math.max(most, Integer.bitCount(used));
                    }
                }
            }
            return most;
        }

        private boolean canEndWith(Verse v, int used, int j) {
            int last = used & at(fitting, j);
            for (int w = 0; w < v.wordCount && last != 0; w++) {
                if (hasBit(last, w) && at(bySet, used & ~(1 << w)) == 1) {
                    return true;
                }
            }
            return false;
        }

        void spellRows(Verse v, int n) {
            Arrays.fill(seenRows, 0);
            rowCount = 0;
            greatestRow = NONE;
            int rows = 1 << WORD_BITS * Math.max(0, Math.min(n, ROW_MOST));
            for (int row = 0; row < rows; row++) {
                spellRow(v, n, row);
            }
        }

        /** A row is a number: its lowest bits are the word on line 0, the next ones that on line 1. */
        private void spellRow(Verse v, int n, int row) {
            int used = 0;
            int code = 0;
            for (int line = 0; line < n; line++) {
                int w = row >> WORD_BITS * line & WORDS_MOST - 1;
                if (!v.hasWord(w) || hasBit(used, w)) {
                    return;
                }
                used |= 1 << w;
                code = 10 * code + v.letterBy(v.formKind, w, line);
            }
            seeRow(code);
        }

        private void seeRow(int code) {
            int cell = code / 32;
            int bit = 1 << code % 32;
            if ((at(seenRows, cell) & bit) == 0) {
                set(seenRows, cell, at(seenRows, cell) | bit);
                rowCount++;
                greatestRow = Math.max(greatestRow, code);
            }
        }
    }

    /** THE TEXT and its reading; where a reading stops, start is the FAULT. */
    private static final class TextReader {
        private static final int END = 0, NAME = 1, NUMBER = 2, STOP = 3, STRANGE = 4;
        private static final int BLANK = 32;
        private static final int FIGURES_MOST = 2;

        private final int[] bytes = new int[TEXT_MOST];
        int length;
        int items;
        int start;
        private int end;
        private int token;
        private int value;
        private int letterCount;
        private int letterCode;

        void append(int c) {
            set(bytes, length, c);
            length++;
        }

        boolean readInto(Verse v) {
            end = 0;
            items = 0;
            advance();
            boolean isRead = readVerse(v);
            for (int i = 0; i < TEXT_MOST && isRead; i++) {
                items++;
                advance();
                if (token == END) {
                    return true;
                }
                if (isName("word")) {
                    isRead = readWord(v);
                } else if (isName("put")) {
                    isRead = readPut(v);
                } else {
                    isRead = isName("take") && readTake(v);
                }
            }
            return false;
        }

        private boolean readVerse(Verse v) {
            if (!isName("verse") || !advanceToNumber(KINDS_OF_EACH)) {
                return false;
            }
            int kind = value;
            if (!readLetters(1, LINES_MOST)) {
                return false;
            }
            v.begin(kind, letterCount, letterCode);
            return true;
        }

        private boolean readWord(Verse v) {
            if (v.wordCount >= WORDS_MOST || !advanceToNumber(KINDS_OF_EACH)) {
                return false;
            }
            int kind = value;
            if (!readLetters(SHORTEST, LONGEST) || v.knows(letterCount, letterCode)) {
                return false;
            }
            v.addWord(kind, letterCount, letterCode);
            return true;
        }

        private boolean readPut(Verse v) {
            if (!advanceToNumber(v.m) || v.wordOn(value) != NONE) {
                return false;
            }
            int j = value;
            if (!advanceToNumber(v.wordCount) || v.lineOf(value) != NONE) {
                return false;
            }
            int w = value;
            advance();
            set(v.lines, j, w);
            return token == STOP;
        }

        private boolean readTake(Verse v) {
            if (!advanceToNumber(v.m) || v.wordOn(value) == NONE) {
                return false;
            }
            set(v.lines, value, NONE);
            advance();
            return token == STOP;
        }

        private boolean readLetters(int least, int most) {
            letterCount = 0;
            letterCode = 0;
            advance();
            for (int i = 0; i < most && token == NUMBER && value <= 9; i++) {
                letterCode = 10 * letterCode + value;
                letterCount++;
                advance();
            }
            return token == STOP && letterCount >= least;
        }

        /** Goes on; whether a number below this bound stands there. */
        private boolean advanceToNumber(int bound) {
            advance();
            return token == NUMBER && value < bound;
        }

        private boolean isName(String name) {
            if (token != NAME || end - start != name.length()) {
                return false;
            }
            for (int i = 0; i < name.length(); i++) {
                if (at(bytes, start + i) != name.charAt(i)) {
                    return false;
                }
            }
            return true;
        }

        private void advance() {
            while (end < length && at(bytes, end) == BLANK) {
                end++;
            }
            start = end;
            value = 0;
            if (start >= length) {
                token = END;
                return;
            }
            int sign = at(bytes, start);
            if (isLetter(sign)) {
                token = NAME;
                passLetters();
            } else if (isFigure(sign)) {
                token = NUMBER;
                passFigures();
            } else {
                token = sign == ';' ? STOP : STRANGE;
                end++;
            }
        }

        private void passLetters() {
            while (end < length && isLetter(at(bytes, end))) {
                end++;
            }
        }

        private void passFigures() {
            while (end < length && isFigure(at(bytes, end))) {
                if (end - start < FIGURES_MOST) {
                    value = 10 * value + at(bytes, end) - '0';
                }
                end++;
            }
            if (end - start > FIGURES_MOST) {
                token = STRANGE;
            }
        }

        private static boolean isLetter(int sign) {
            return sign >= 'a' && sign <= 'z';
        }

        private static boolean isFigure(int sign) {
            return sign >= '0' && sign <= '9';
        }
    }
}
