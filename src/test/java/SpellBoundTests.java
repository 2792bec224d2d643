import java.util.function.Supplier;

/** Undoing, and how it is spelled: where there is none, just enough, one too many (promises 11, 15 to 22). */
public final class SpellBoundTests {
    private static final Checks C = new Checks("SpellBoundTests");
    private static final Bounds B = new Bounds(C);
    private static final int NONE = Bounds.NONE, NO = Bounds.NO;

    public static void main(String[] args) {
        nothingToUndo();
        eightToUndo();
        ninthIsForgotten();
        whatEndsUndoing();
        whatDoesNotEndUndoing();
        undoneIsNotUndone();
        waysWithFewWords();
        waysWhateverStands();
        firstWhereThereIsNone();
        firstOfLikeOnes();
        cheapWhereThereIsNone();
        cheapAtTheEnds();
        cheapOfLikeOnes();
        moreThatStays();
        neededAndIdleWithoutWays();
        neededByAllAndByNone();
        heldByNoneAndByAll();
        formsOfNoneAndOfAll();
        rowsOfNone();
        rowsOfMany();
        nothingIsChanged();
        C.end();
    }

    private static void nothingToUndo() {
        B.refused("11: of a new object", AcrosticLines::new, a -> a.undo(), NO, NO);
        AcrosticLines a = Bounds.alike(3, 3);
        a.puts(0, 0);
        C.same("11: one", a.undo(), 0);
        C.same("11: no second", a.undo(), NO);
        C.same("11: none may be", a.count(9), 0);
        C.same("11: counted as NO", a.status(1), 1);
    }

    private static AcrosticLines changed(int times) {
        AcrosticLines a = Bounds.alike(6, 8);
        for (int i = 0; i < times; i++) {
            if (i < 6) {
                a.puts(i, i + 1);
            } else {
                a.takes(i - 6);
            }
        }
        return a;
    }

    private static void eightToUndo() {
        for (int times = 0; times <= 12; times++) {
            C.same("11: after " + times + " changes", changed(times).count(9), Math.min(8, times));
        }
        AcrosticLines a = changed(8);
        for (int left = 7; left >= 0; left--) {
            AcrosticLines as = changed(left);
            C.same("11: how many are RIGHT then", a.undo(), as.count(5));
            C.same("11: that may be undone", a.count(9), left);
            for (int j = 0; j < 6; j++) {
                C.same("11: LINE " + j + " as ahead of change " + left, a.about(j, 0), as.about(j, 0));
            }
        }
        C.same("11: LINES are empty", a.count(4), 0);
        C.same("11: no ninth", a.undo(), NO);
    }

    private static void ninthIsForgotten() {
        for (int times = 9; times <= 12; times++) {
            AcrosticLines a = changed(times);
            for (int i = 0; i < 8; i++) {
                a.undo();
            }
            AcrosticLines as = changed(times - 8);
            for (int j = 0; j < 6; j++) {
                C.same("11: LINE " + j + " as ahead of the last 8 of " + times, a.about(j, 0), as.about(j, 0));
            }
            C.same("11: of " + times + " no ninth", a.undo(), NO);
        }
    }

    private static void ends(String what, Bounds.Call call) {
        AcrosticLines a = Bounds.busy();
        call.on(a);
        C.same("11: that may be undone behind " + what, a.count(9), 0);
        C.same("11: undo behind " + what, a.undo(), NO);
    }

    private static void whatEndsUndoing() {
        ends("a FORM told", a -> a.form(3));
        ends("the same FORM told", a -> a.form(0));
        ends("a WORD that comes", a -> a.word(0, 3, 999));
        ends("a verse", a -> a.verse(0, 4, 1234));
        ends("a VERSE that is read", a -> a.read());
        AcrosticLines a = Bounds.busy();
        a.form(3);
        a.takes(0);
        C.same("11: a change behind it may be undone", a.count(9), 1);
        C.same("11: what is RIGHT by the new FORM", a.undo(), 1);
        C.same("11: no more", a.undo(), NO);
    }

    private static void stays(String what, Bounds.Call call) {
        AcrosticLines a = Bounds.busy();
        call.on(a);
        C.same("11: that may be undone behind " + what, a.count(9), 5);
    }

    private static void whatDoesNotEndUndoing() {
        stays("nothing", a -> 0);
        stays("a refused FORM", a -> a.form(6));
        stays("a WORD refused as BAD", a -> a.word(0, 3, 1000));
        stays("a WORD refused as NO", a -> a.word(0, 3, 100));
        stays("a refused verse", a -> a.verse(0, 7, 0));
        stays("a FAULT", a -> a.type('x') + a.read());
        stays("a refused put", a -> a.puts(0, 1));
        stays("a refused take", a -> a.takes(1));
        stays("LINES not changed about", a -> a.swaps(1, 3));
        stays("a NOTE", a -> a.note(3, 0, 0));
        stays("a MARK", a -> a.mark(0, 3, 0, 0));
        stays("NOTES forgotten", a -> a.forget(0));
        stays("an IMAGE", a -> a.image(0));
        stays("LUCK", a -> a.luck());
        stays("EVENINGS", a -> a.evenings(5, 60));
        stays("an empty TEXT", a -> a.clear());
        AcrosticLines full = Bounds.full();
        full.word(0, 3, 999);
        C.same("11: behind a WORD refused as FULL", full.count(9), 8);
    }

    private static void undoneIsNotUndone() {
        AcrosticLines a = Bounds.busy();
        a.undo();
        C.same("11: one less may be undone", a.count(9), 4);
        C.same("11: LINE 0 as ahead of it", a.about(0, 0), NONE);
        a.undo();
        C.same("11: not what undo changed", a.about(0, 0), 3);
        a.puts(3, 1);
        C.same("11: one more may be undone", a.count(9), 4);
        AcrosticLines b = changed(9);
        b.undo();
        b.takes(5);
        C.same("11: 8 again", b.count(9), 8);
        b.takes(4);
        C.same("11: 8 at most", b.count(9), 8);
    }

    private static void waysWithFewWords() {
        B.asks("15: no WORDS", AcrosticLines::new, a -> a.ways(), 0);
        int[][] due = {{1, 1, 1}, {1, 8, 8}, {2, 1, 0}, {2, 2, 2}, {3, 2, 0}, {3, 3, 6}, {5, 4, 0}, {5, 5, 120},
            {6, 5, 0}, {6, 6, 720}, {6, 7, 5040}, {6, 8, 20160}};
        for (int[] d : due) {
            B.asks("15: " + d[0] + " LINES, " + d[1] + " WORDS", () -> Bounds.alike(d[0], d[1]), a -> a.ways(), d[2]);
        }
        AcrosticLines a = Bounds.alike(6, 8);
        a.verse(0, 2, 1);
        a.word(0, 3, 0);
        a.word(0, 3, 1);
        C.same("15: a LINE that no WORD FITS", a.ways(), 0);
    }

    private static void waysWhateverStands() {
        B.asks("15: of the busy one", Bounds::busy, a -> a.ways(), 2);
        AcrosticLines a = Bounds.busy();
        a.takes(0);
        a.puts(0, 3);
        C.same("15: with another one there", a.ways(), 2);
    }

    private static void firstWhereThereIsNone() {
        for (int m = 1; m <= 6; m++) {
            int lines = m;
            for (int j = 0; j < m; j++) {
                int line = j;
                B.asks("16: too few WORDS", () -> Bounds.alike(lines, lines - 1), a -> a.first(line), NONE);
                B.asks("16: just enough", () -> Bounds.alike(lines, lines), a -> a.first(line), line);
            }
        }
        B.asks("16: no WORDS", AcrosticLines::new, a -> a.first(2), NONE);
        B.refused("16: BAD where there is none", AcrosticLines::new, a -> a.first(3), -2, -2);
        B.refused("16: NONE is no LINE", Bounds::busy, a -> a.first(NONE), -2, -2);
    }

    private static void firstOfLikeOnes() {
        int[] due = {0, 1, 2, 3};
        for (int j = 0; j < 4; j++) {
            int line = j;
            B.asks("16: the first one on LINE " + j, Bounds::busy, a -> a.first(line), due[j]);
        }
        AcrosticLines a = new AcrosticLines();
        a.verse(3, 2, 12);
        a.word(0, 3, 120);
        a.word(0, 3, 990);
        a.word(0, 3, 190);
        a.word(0, 3, 920);
        C.same("16: LINE 0 goes ahead of LINE 1", a.first(0), 0);
        C.same("16: LINE 1 then", a.first(1), 3);
    }

    private static void cheapWhereThereIsNone() {
        Supplier<AcrosticLines> none = () -> Bounds.alike(3, 2);
        for (int j = NONE; j < 3; j++) {
            int line = j;
            B.asks("17: no WAYS, j is " + j, none, a -> a.cheap(line), -6);
            B.asks("17: no WORDS, j is " + j, AcrosticLines::new, a -> a.cheap(line), -6);
        }
        B.refused("17: BAD where there is none", none, a -> a.cheap(3), -10, -2);
        B.refused("17: BAD where there is none", none, a -> a.cheap(-2), -10, -2);
    }

    private static AcrosticLines costly(int kind, int n, int form) {
        AcrosticLines a = new AcrosticLines();
        a.verse(form, 6, 0);
        for (int w = 0; w < 6; w++) {
            a.word(kind, n, 10 * w);
        }
        return a;
    }

    private static void cheapAtTheEnds() {
        B.asks("17: the dearest of all", () -> costly(1, 6, 0), a -> a.cheap(NONE), 54);
        B.asks("17: weak ones of 6", () -> costly(3, 6, 0), a -> a.cheap(NONE), 51);
        B.asks("17: the cheapest of six LINES", () -> costly(2, 3, 0), a -> a.cheap(NONE), 12);
        AcrosticLines a = new AcrosticLines();
        a.verse(0, 1, 0);
        a.word(4, 6, 0);
        C.same("17: 0 is no NONE", a.cheap(NONE), 0);
        C.same("17: WORD 0", a.cheap(0), 0);
    }

    private static void cheapOfLikeOnes() {
        for (int j = 0; j < 6; j++) {
            int line = j;
            B.asks("17: of like ones the first", () -> costly(0, 4, 0), a -> a.cheap(line), line);
        }
        AcrosticLines a = new AcrosticLines();
        a.verse(0, 2, 0);
        a.word(0, 6, 1);
        a.word(0, 3, 1);
        a.word(0, 3, 2);
        a.word(0, 3, 3);
        C.same("17: the least", a.cheap(NONE), 6);
        C.same("17: not the first of all on LINE 0", a.cheap(0), 1);
        C.same("17: of like ones the first on LINE 1", a.cheap(1), 2);
    }

    private static void moreThatStays() {
        B.asks("18: no WAYS, nothing stands", AcrosticLines::new, a -> a.more(), 0);
        B.asks("18: nothing stands: all WAYS", () -> Bounds.alike(6, 8), a -> a.more(), 20160);
        int[] due = {20160, 2520, 360, 60, 12, 3, 1};
        for (int standing = 0; standing <= 6; standing++) {
            AcrosticLines a = Bounds.alike(6, 8);
            for (int j = 0; j < standing; j++) {
                a.puts(j, 7 - j);
            }
            C.same("18: " + standing + " stand", a.more(), due[standing]);
        }
        B.asks("18: one that is not RIGHT", Bounds::busy, a -> a.more(), 0);
        AcrosticLines a = Bounds.busy();
        a.takes(2);
        C.same("18: without it", a.more(), 2);
        a.puts(1, 4);
        C.same("18: the other one of two", a.more(), 1);
        AcrosticLines b = Bounds.alike(3, 2);
        b.puts(0, 0);
        C.same("18: no WAYS, one stands", b.more(), 0);
    }

    private static void neededAndIdleWithoutWays() {
        for (int words = 0; words <= 5; words++) {
            int many = words;
            B.asks("19: no WAYS: none is NEEDED", () -> Bounds.alike(6, many), a -> a.needs(0), 0);
            B.asks("19: no WAYS: all are IDLE", () -> Bounds.alike(6, many), a -> a.needs(1), (1 << many) - 1);
        }
        AcrosticLines a = Bounds.alike(6, 8);
        a.form(1);
        C.same("19: 8 WORDS, no WAYS", a.needs(0), 0);
        C.same("19: 8 WORDS, no WAYS", a.needs(1), 255);
    }

    private static void neededByAllAndByNone() {
        B.asks("19: just enough: all are NEEDED", () -> Bounds.alike(6, 6), a -> a.needs(0), 63);
        B.asks("19: just enough: none is IDLE", () -> Bounds.alike(6, 6), a -> a.needs(1), 0);
        B.asks("19: one more: none is NEEDED", () -> Bounds.alike(6, 7), a -> a.needs(0), 0);
        B.asks("19: one more: none is IDLE", () -> Bounds.alike(6, 7), a -> a.needs(1), 0);
        B.asks("19: of the busy one", Bounds::busy, a -> a.needs(0), 13);
        AcrosticLines a = Bounds.alike(1, 7);
        a.word(0, 3, 900);
        C.same("19: WORD 7 is IDLE", a.needs(1), 128);
        a.verse(0, 1, 9);
        a.word(0, 3, 0);
        a.word(0, 3, 900);
        C.same("19: the one that FITS is NEEDED", a.needs(0), 2);
        C.same("19: the other one is IDLE", a.needs(1), 1);
    }

    private static void heldByNoneAndByAll() {
        B.asks("20: no WORDS", AcrosticLines::new, a -> a.held(), 0);
        for (int words = 0; words <= 8; words++) {
            int many = words;
            B.asks("20: " + words + " WORDS, 6 LINES", () -> Bounds.alike(6, many), a -> a.held(), Math.min(6, many));
            B.asks("20: " + words + " WORDS, 1 LINE", () -> Bounds.alike(1, many), a -> a.held(), Math.min(1, many));
        }
        AcrosticLines a = new AcrosticLines();
        a.verse(0, 6, 123456);
        a.word(0, 3, 0);
        a.word(0, 3, 700);
        C.same("20: none FITS", a.held(), 0);
        a.word(0, 3, 600);
        C.same("20: the last LINE alone", a.held(), 1);
        a.word(0, 3, 601);
        C.same("20: two for one LINE", a.held(), 1);
        B.asks("20: whatever stands there", Bounds::busy, b -> b.held(), 4);
    }

    private static void formsOfNoneAndOfAll() {
        B.asks("21: no WORDS", AcrosticLines::new, a -> a.forms(), 0);
        B.asks("21: too few WORDS", () -> Bounds.alike(3, 2), a -> a.forms(), 0);
        AcrosticLines a = new AcrosticLines();
        a.verse(4, 2, 77);
        a.word(0, 5, 77777);
        C.same("21: one WORD too few", a.forms(), 0);
        a.word(0, 6, 777777);
        C.same("21: all", a.forms(), 63);
        C.same("21: the FORM stays", a.count(2), 4);
        // the one LETTER 9 is at the PLACE of these KINDS on LINE 0 alone
        int[][] due = {{900000, 41}, {9, 18}, {900, 4}, {90000, 0}, {9000, 0}};
        for (int[] d : due) {
            a.verse(0, 1, 9);
            a.word(0, 6, d[0]);
            C.same("21: of " + d[0], a.forms(), d[1]);
        }
    }

    private static void rowsOfNone() {
        for (int n = 1; n <= 3; n++) {
            int many = n;
            B.asks("22: no WORDS, n is " + n, AcrosticLines::new, a -> a.rows(many, 0), 0);
            B.asks("22: no WORDS, n is " + n, AcrosticLines::new, a -> a.rows(many, 1), NONE);
            B.asks("22: a WORD too few, n is " + n, () -> Bounds.alike(6, many - 1), a -> a.rows(many, 0), 0);
            B.asks("22: a WORD too few, n is " + n, () -> Bounds.alike(6, many - 1), a -> a.rows(many, 1), NONE);
            B.asks("22: just enough, n is " + n, () -> Bounds.alike(6, many), a -> a.rows(many, 0), 1);
            B.asks("22: a row of noughts, n is " + n, () -> Bounds.alike(6, many), a -> a.rows(many, 1), 0);
        }
        B.refused("22: beyond M, no WORDS", () -> Bounds.alike(2, 0), a -> a.rows(3, 0), -2, -2);
        B.asks("22: as far as M", () -> Bounds.alike(2, 2), a -> a.rows(2, 0), 1);
    }

    private static AcrosticLines unlike() {
        AcrosticLines a = new AcrosticLines();
        a.verse(0, 6, 0);
        for (int w = 0; w < 8; w++) {
            a.word(0, 3, 100 * (w + 2));
        }
        return a;
    }

    private static void rowsOfMany() {
        int[] many = {8, 56, 336};
        int[] greatest = {9, 98, 987};
        for (int n = 1; n <= 3; n++) {
            int length = n;
            B.asks("22: 8 unlike LETTERS, n is " + n, SpellBoundTests::unlike, a -> a.rows(length, 0), many[n - 1]);
            B.asks("22: the greatest, n is " + n, SpellBoundTests::unlike, a -> a.rows(length, 1), greatest[n - 1]);
        }
        AcrosticLines a = new AcrosticLines();
        a.verse(0, 3, 0);
        for (int w = 0; w < 3; w++) {
            a.word(0, 3, 999 - w);
        }
        C.same("22: the greatest of all", a.rows(3, 1), 999);
        C.same("22: like rows are one", a.rows(3, 0), 1);
        a.word(0, 3, 0);
        C.same("22: with one nought", a.rows(3, 0), 4);
        C.same("22: of the first two LINES", a.rows(2, 0), 3);
        C.same("22: of the first LINE", a.rows(1, 0), 2);
    }

    private static void nothingIsChanged() {
        Bounds.Call[] calls = {a -> a.ways(), a -> a.first(0), a -> a.cheap(0), a -> a.more(), a -> a.needs(0),
            a -> a.held(), a -> a.forms(), a -> a.rows(3, 0)};
        long[] due = {2, 0, 0, 0, 13, 4, 1, 33};
        for (int i = 0; i < calls.length; i++) {
            B.asks("15 to 22: nothing is changed by question " + i, Bounds::busy, calls[i], due[i]);
            AcrosticLines a = Bounds.busy();
            calls[i].on(a);
            C.same("15 to 22: asked twice", calls[i].on(a), due[i]);
        }
    }
}
