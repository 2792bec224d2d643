import java.util.function.Supplier;

/** What the document's Terms tell of least, greatest, none, full and ended, by promise. */
public final class TermBoundTests {
    private static final Checks C = new Checks("TermBoundTests");
    private static final Bounds B = new Bounds(C);
    private static final int NONE = Bounds.NONE, NO = Bounds.NO, FULL = Bounds.FULL;

    /** By KIND of FORM, for each LENGTH 3 to 6: the PLACE that counts on LINES 0 to 5. */
    static final String[][] PLACES = {
        {"000000", "000000", "000000", "000000"},
        {"222222", "333333", "444444", "555555"},
        {"111111", "222222", "222222", "333333"},
        {"012012", "012301", "012340", "012345"},
        {"210210", "321032", "432104", "543210"},
        {"020202", "030303", "040404", "050505"}};

    /** By KIND of WORD, for each LENGTH 3 to 6: what it COSTS on LINES 0 to 5. */
    static final int[][][] COSTS = {
        {{3, 3, 3, 3, 3, 3}, {4, 4, 4, 4, 4, 4}, {5, 5, 5, 5, 5, 5}, {6, 6, 6, 6, 6, 6}},
        {{6, 6, 6, 6, 6, 6}, {7, 7, 7, 7, 7, 7}, {8, 8, 8, 8, 8, 8}, {9, 9, 9, 9, 9, 9}},
        {{2, 2, 2, 2, 2, 2}, {2, 2, 2, 2, 2, 2}, {3, 3, 3, 3, 3, 3}, {3, 3, 3, 3, 3, 3}},
        {{3, 4, 5, 6, 7, 8}, {4, 5, 6, 7, 8, 9}, {5, 6, 7, 8, 9, 10}, {6, 7, 8, 9, 10, 11}},
        {{0, 6, 6, 6, 6, 6}, {0, 7, 7, 7, 7, 7}, {0, 8, 8, 8, 8, 8}, {0, 9, 9, 9, 9, 9}},
        {{2, 2, 2, 4, 4, 4}, {2, 2, 2, 4, 4, 4}, {3, 3, 3, 5, 5, 5}, {3, 3, 3, 5, 5, 5}}};

    public static void main(String[] args) {
        newObject();
        verseAsAtFirst();
        placesThatCount();
        costsOnLines();
        noughtsAhead();
        formTellsWhatItWas();
        knownWords();
        eightWords();
        oneWordOnALine();
        taken();
        changedAbout();
        ofAWordOnNoLine();
        ofAnEmptyLine();
        fitsThereOrNot();
        spelledByAll();
        C.end();
    }

    private static void newObject() {
        Supplier<AcrosticLines> made = AcrosticLines::new;
        for (int what = 0; what <= 10; what++) {
            B.asks("1: count(" + what + ") of a new object", made, counted(what), what == 1 ? 3 : 0);
        }
        B.refused("1: no WORD 0", made, a -> a.of(0, 0), -2, -2);
        B.asks("1: LINE 2 is the last", made, a -> a.about(2, 0), NONE);
        B.refused("1: no LINE 3", made, a -> a.about(3, 0), -2, -2);
        B.asks("1: THE FRACTION is 0 above", made, a -> a.part(0), 0);
        B.asks("1: THE FRACTION is 1 below", made, a -> a.part(1), 1);
        B.asks("1: THE TEXT is empty", made, a -> a.read(), -10);
        B.refused("1: nothing to undo", made, a -> a.undo(), NO, NO);
        B.refused("1: IMAGE 0 was not kept", made, a -> a.from(0), NO, NO);
        B.refused("1: IMAGE 1 was not kept", made, a -> a.from(1), NO, NO);
        for (int what = 0; what < 3; what++) {
            C.same("1: STATUS", new AcrosticLines().status(what), 0);
        }
    }

    private static Bounds.Call counted(int what) {
        return a -> a.count(what);
    }

    private static void verseAsAtFirst() {
        B.taken("2: there were no WORDS", AcrosticLines::new, a -> a.verse(0, 1, 0), 0);
        B.taken("2: there were 8 WORDS", Bounds::full, a -> a.verse(0, 1, 0), 8);
        AcrosticLines a = Bounds.full();
        a.verse(5, 6, 999999);
        long[] due = {0, 6, 5, 999999, 0, 0, 0, 0, 0, 0, 150};
        for (int what = 0; what <= 10; what++) {
            C.same("2: count(" + what + ") behind a verse", a.count(what), due[what]);
        }
        C.same("2: all LINES are empty", a.about(5, 0), NONE);
        C.same("2: no NOTES: all KINDS", a.is(), 63);
        C.same("2: nothing to undo", a.undo(), NO);
        C.same("2: a WORD there was may come again", a.word(0, 3, 0), 0);
        C.same("2: no MARKS: all KINDS", a.kinds(0), 63);
        C.same("2: THE TEXT stays", a.clear(), 150);
        C.same("2: IMAGES stay", a.from(0), 1);
        AcrosticLines b = Bounds.busy();
        b.verse(0, 3, 0);
        C.same("2: THE FRACTION stays, above", b.part(0), 1);
        C.same("2: THE FRACTION stays, below", b.part(1), 60);
        C.same("2: STATUS stays, BAD", b.status(0), 1);
        C.same("2: STATUS stays, NO", b.status(1), 2);
        C.same("2: STATUS stays, FULL", b.status(2), 3);
        C.same("2: a refused verse is not begun", b.verse(0, 3, 1000), -2);
    }

    private static void placesThatCount() {
        for (int kind = 0; kind < 6; kind++) {
            for (int n = 3; n <= 6; n++) {
                for (int j = 0; j < 6; j++) {
                    int place = PLACES[kind][n - 3].charAt(j) - '0';
                    String of = " of FORM " + kind + ", LENGTH " + n + ", LINE " + j;
                    AcrosticLines a = new AcrosticLines();
                    a.verse(kind, 6, 0);
                    a.word(0, n, 123456 / (int) Math.pow(10, 6 - n));
                    a.puts(j, 0);
                    C.same("3: the LETTER that counts" + of, a.about(j, 1), place + 1);
                    for (int x = 0; x < 6; x++) {
                        a.forget(0);
                        a.note(n, j, x);
                        C.same("26: PLACE " + x + of, a.is() >> kind & 1, x == place ? 1 : 0);
                    }
                }
            }
        }
    }

    private static void costsOnLines() {
        for (int kind = 0; kind < 6; kind++) {
            for (int n = 3; n <= 6; n++) {
                for (int j = 0; j < 6; j++) {
                    int cost = COSTS[kind][n - 3][j];
                    String of = " of WORD " + kind + ", LENGTH " + n + ", LINE " + j;
                    AcrosticLines a = new AcrosticLines();
                    a.verse(0, 6, 0);
                    a.word(kind, n, 0);
                    a.puts(j, 0);
                    C.same("13: what it COSTS" + of, a.about(j, 2), cost);
                    C.same("37: what all COST" + of, a.count(6), cost);
                    for (int x = Math.max(0, cost - 1); x <= cost + 1; x++) {
                        a.forget(1);
                        a.mark(0, n, j, x);
                        C.same("28: COST " + x + of, a.kinds(0) >> kind & 1, x == cost ? 1 : 0);
                    }
                }
            }
        }
    }

    private static void noughtsAhead() {
        AcrosticLines a = new AcrosticLines();
        a.verse(3, 6, 7);
        a.word(0, 6, 7);
        a.puts(0, 0);
        C.same("2: the TARGET's first LETTER", a.about(0, 4), 0);
        C.same("2: the TARGET's last LETTER", a.about(5, 4), 7);
        C.same("4: the WORD's first LETTER", a.about(0, 1), 0);
        C.same("4: the WORD's last LETTER", a.fits(0, 5), 1);
        C.same("4: its CODE", a.of(0, 2), 7);
        C.same("4: its LENGTH", a.of(0, 1), 6);
        a.verse(0, 1, 9);
        a.word(0, 3, 999);
        C.same("2: LETTER 9", a.about(0, 4), 9);
        C.same("8: LETTER 9", a.puts(0, 0), 1);
    }

    private static void formTellsWhatItWas() {
        AcrosticLines a = new AcrosticLines();
        C.same("3: FIRST at first", a.form(5), 0);
        C.same("3: TURN", a.form(5), 5);
        C.same("3: TURN", a.form(0), 5);
        C.same("3: a refused one is not told", a.form(6), -2);
        C.same("3: FIRST", a.form(1), 0);
        AcrosticLines b = Bounds.busy();
        b.form(2);
        C.same("3: what stands stays", b.about(0, 0), 0);
        C.same("3: NOTES stay", b.count(7), 2);
        C.same("3: MARKS stay", b.count(8), 1);
    }

    private static void knownWords() {
        Supplier<AcrosticLines> made = Bounds::busy;
        for (int kind = 0; kind < 6; kind++) {
            int other = kind;
            B.refused("4: known, of KIND " + kind, made, a -> a.word(other, 3, 100), NO, NO);
        }
        B.refused("4: the last one is known", made, a -> a.word(4, 6, 200000), NO, NO);
        B.refused("4: one on no LINE is known", made, a -> a.word(3, 4, 4000), NO, NO);
        B.taken("4: the same CODE of another LENGTH", made, a -> a.word(0, 4, 100), 5);
        B.taken("4: another CODE of the same LENGTH", made, a -> a.word(0, 3, 101), 5);
        AcrosticLines a = new AcrosticLines();
        for (int n = 3; n <= 6; n++) {
            C.same("4: noughts of LENGTH " + n, a.word(0, n, 0), n - 3);
            C.same("4: noughts of LENGTH " + n + " again", a.word(0, n, 0), NO);
        }
        a.verse(0, 3, 0);
        C.same("4: behind a verse it is new", a.word(0, 3, 0), 0);
    }

    private static void eightWords() {
        AcrosticLines a = new AcrosticLines();
        for (int w = 0; w < 8; w++) {
            C.same("4: WORDS as they come", a.word(w % 6, 3 + w % 4, w), w);
        }
        for (int w = 0; w < 8; w++) {
            C.same("12: KIND", a.of(w, 0), w % 6);
            C.same("12: LENGTH", a.of(w, 1), 3 + w % 4);
            C.same("12: CODE", a.of(w, 2), w);
        }
        B.taken("4: the eighth", () -> Bounds.alike(1, 7), b -> b.word(0, 6, 5), 7);
        B.refused("4: a ninth", () -> Bounds.alike(1, 8), b -> b.word(0, 6, 5), FULL, FULL);
    }

    private static void oneWordOnALine() {
        Supplier<AcrosticLines> made = Bounds::busy;
        B.refused("8: the LINE has another", made, a -> a.puts(0, 1), NO, NO);
        B.refused("8: the LINE has it", made, a -> a.puts(0, 0), NO, NO);
        B.refused("8: it is on another LINE", made, a -> a.puts(1, 0), NO, NO);
        B.refused("8: both", made, a -> a.puts(2, 0), NO, NO);
        B.taken("8: RIGHT", made, a -> a.puts(1, 1), 1);
        B.taken("8: not RIGHT", made, a -> a.puts(1, 2), 0);
        B.taken("8: the last LINE", made, a -> a.puts(3, 3), 1);
        AcrosticLines a = Bounds.busy();
        a.takes(0);
        C.same("8: on another LINE, once it is taken", a.puts(1, 0), 0);
        C.same("8: the LINE it was on", a.puts(0, 1), 0);
    }

    private static void taken() {
        Supplier<AcrosticLines> made = Bounds::busy;
        B.taken("9: WORD 0", made, a -> a.takes(0), 0);
        B.taken("9: WORD 4", made, a -> a.takes(2), 4);
        B.refused("9: LINE 1 has none", made, a -> a.takes(1), NO, NO);
        B.refused("9: LINE 3 has none", made, a -> a.takes(3), NO, NO);
        B.refused("9: of a new object", AcrosticLines::new, a -> a.takes(0), NO, NO);
        AcrosticLines a = Bounds.busy();
        a.takes(0);
        C.same("9: the LINE is empty", a.about(0, 0), NONE);
        C.same("9: the WORD is on none", a.of(0, 3), NONE);
        C.same("9: a second time", a.takes(0), NO);
    }

    private static void changedAbout() {
        Supplier<AcrosticLines> made = Bounds::busy;
        B.refused("10: both have none", made, a -> a.swaps(1, 3), NO, NO);
        B.refused("10: both have none, turned", made, a -> a.swaps(3, 1), NO, NO);
        B.refused("10: of a new object", AcrosticLines::new, a -> a.swaps(0, 2), NO, NO);
        B.taken("10: the second has none", made, a -> a.swaps(2, 1), 2);
        B.taken("10: the first has none", made, a -> a.swaps(1, 2), 2);
        B.taken("10: both have one", made, a -> a.swaps(0, 2), 0);
        AcrosticLines a = Bounds.busy();
        a.swaps(3, 0);
        C.same("10: the WORD went over", a.about(3, 0), 0);
        C.same("10: the LINE is empty", a.about(0, 0), NONE);
        C.same("10: the WORD's LINE", a.of(0, 3), 3);
    }

    private static void ofAWordOnNoLine() {
        B.asks("12: on no LINE", Bounds::busy, a -> a.of(1, 3), NONE);
        B.asks("12: on LINE 0", Bounds::busy, a -> a.of(0, 3), 0);
        B.asks("12: on LINE 2", Bounds::busy, a -> a.of(4, 3), 2);
        AcrosticLines a = Bounds.alike(6, 8);
        a.puts(5, 7);
        C.same("12: the last WORD on the last LINE", a.of(7, 3), 5);
    }

    private static void ofAnEmptyLine() {
        int[] due = {NONE, NONE, 0, 0, 2};
        for (int what = 0; what < 5; what++) {
            int asked = what;
            B.asks("13: " + what + " of an empty LINE", Bounds::busy, a -> a.about(1, asked), due[what]);
        }
        // WORD 0 is not for LINES that have none, nor is their LETTER 0
        AcrosticLines a = Bounds.alike(3, 1);
        C.same("13: an empty LINE is not RIGHT, its LETTER is 0", a.about(0, 3), 0);
        C.same("37: none is RIGHT", a.count(5), 0);
        C.same("13: the empty LINE COSTS 0", a.about(0, 2), 0);
        a.puts(0, 0);
        C.same("13: LETTER 0 that counts", a.about(0, 1), 0);
        C.same("13: WORD 0", a.about(0, 0), 0);
        C.same("13: RIGHT", a.about(0, 3), 1);
    }

    private static void fitsThereOrNot() {
        Supplier<AcrosticLines> made = Bounds::busy;
        B.asks("14: there", made, a -> a.fits(0, 0), 1);
        B.asks("14: there, and does not FIT", made, a -> a.fits(4, 2), 0);
        B.asks("14: on another LINE, this one empty", made, a -> a.fits(4, 1), 1);
        B.asks("14: on no LINE, this one not empty", made, a -> a.fits(2, 2), 1);
        B.asks("14: on no LINE, this one empty", made, a -> a.fits(3, 3), 1);
        B.asks("14: does not FIT", made, a -> a.fits(3, 1), 0);
    }

    private static void spelledByAll() {
        for (int m = 1; m <= 6; m++) {
            AcrosticLines a = Bounds.alike(m, m);
            for (int j = 0; j < m; j++) {
                C.same("37: RIGHT ahead", a.count(5), j);
                C.same("8: RIGHT", a.puts(j, j), 1);
            }
            C.same("37: all LINES are RIGHT", a.count(5), m);
            C.same("18: then it is SPELLED in one way", a.more(), 1);
        }
    }
}
