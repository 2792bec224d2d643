import java.math.BigInteger;
import java.util.ArrayList;
import java.util.HashMap;
import java.util.List;
import java.util.Map;
import java.util.function.Supplier;

/** What was seen, poets, luck, evenings, images, STATUS: none, full, kept or not (promises 23 to 38). */
public final class SeenBoundTests {
    private static final Checks C = new Checks("SeenBoundTests");
    private static final Bounds B = new Bounds(C);
    private static final int NONE = Bounds.NONE, NO = Bounds.NO, FULL = Bounds.FULL;

    public static void main(String[] args) {
        sixNotes();
        sixMarks();
        forgotten();
        isWithoutNotes();
        lookByEachNote();
        lookWhereThereIsNone();
        kindsWithoutMarks();
        kindsOfOneWordAlone();
        askByEachMark();
        askWhereThereIsNone();
        poetsWithoutALine();
        poetsWithoutWords();
        poetsAtTheLastPair();
        poetsWhoGainMostAndLeast();
        poetsAtTheFirstEmptyLine();
        luckWithFewWords();
        luckInLowestTerms();
        theFractionStays();
        noEvenings();
        eveningsBySeed();
        eveningsFromEmptyLines();
        imagesNotKept();
        imagesKeptAgain();
        imagesKeepWhatMayBeUndone();
        whatImagesLeave();
        statusOfEachReason();
        statusOfAnotherWhat();
        whatStatusDoesNotCount();
        greatestCounts();
        digestWrapsAround();
        C.end();
    }

    private static AcrosticLines noted(int times) {
        AcrosticLines a = Bounds.alike(1, 1);
        for (int i = 0; i < times; i++) {
            a.note(3, 0, 0);
            a.mark(0, 3, 0, 3);
        }
        return a;
    }

    private static void sixNotes() {
        for (int i = 0; i < 6; i++) {
            int told = i;
            B.taken("23: NOTE " + i, () -> noted(told), a -> a.note(3, 1, 1), i + 1);
        }
        B.refused("23: a seventh NOTE", () -> noted(6), a -> a.note(3, 1, 1), FULL, FULL);
        B.refused("23: one told already", () -> noted(6), a -> a.note(3, 0, 0), FULL, FULL);
        C.same("37: six NOTES", noted(6).count(7), 6);
    }

    private static void sixMarks() {
        for (int i = 0; i < 6; i++) {
            int told = i;
            B.taken("24: MARK " + i, () -> noted(told), a -> a.mark(0, 3, 1, 4), i + 1);
        }
        B.refused("24: a seventh MARK", () -> noted(6), a -> a.mark(0, 3, 1, 4), FULL, FULL);
        AcrosticLines a = Bounds.alike(1, 8);
        for (int w = 2; w < 8; w++) {
            C.same("24: of all WORDS together", a.mark(w, 3, 0, 3), w - 1);
        }
        C.same("24: of another WORD", a.mark(0, 3, 0, 3), FULL);
        C.same("37: six MARKS", a.count(8), 6);
    }

    private static void forgotten() {
        for (int many = 0; many <= 6; many++) {
            int told = many;
            B.taken("25: " + many + " NOTES", () -> noted(told), a -> a.forget(0), many);
            B.taken("25: " + many + " MARKS", () -> noted(told), a -> a.forget(1), many);
        }
        AcrosticLines a = noted(6);
        a.forget(0);
        C.same("25: no NOTES", a.count(7), 0);
        C.same("25: MARKS stay", a.count(8), 6);
        C.same("25: room for a NOTE", a.note(3, 0, 0), 1);
        C.same("25: none for a MARK", a.mark(0, 3, 0, 3), FULL);
        a.forget(1);
        C.same("25: no MARKS", a.count(8), 0);
        C.same("25: NOTES stay", a.count(7), 1);
        C.same("25: a second time", a.forget(1), 0);
        C.same("25: room for a MARK", a.mark(0, 3, 0, 3), 1);
    }

    private static AcrosticLines seen(int n, int j, int x) {
        AcrosticLines a = Bounds.alike(1, 2);
        a.note(n, j, x);
        return a;
    }

    private static void isWithoutNotes() {
        B.asks("26: no NOTES: all", AcrosticLines::new, a -> a.is(), 63);
        B.asks("26: a PLACE that no WORD of that LENGTH has", () -> seen(3, 0, 3), a -> a.is(), 0);
        B.asks("26: the last PLACE of 3", () -> seen(3, 0, 2), a -> a.is(), 18);
        B.asks("26: the last PLACE of 6 on the last LINE", () -> seen(6, 5, 5), a -> a.is(), 42);
        AcrosticLines a = seen(6, 5, 5);
        a.note(6, 5, 5);
        C.same("26: the same again", a.is(), 42);
        a.note(6, 5, 4);
        C.same("26: not both can be", a.is(), 0);
        B.asks("26: of the busy one", Bounds::busy, b -> b.is(), 8);
    }

    /** The least of the best questions, by the tables of the document's words. */
    private static int best(int bits, boolean ofWords) {
        int best = NONE;
        int fewest = 7;
        for (int n = 3; n <= 6 && bits != 0; n++) {
            for (int j = 0; j < 6; j++) {
                Map<Integer, Integer> alike = new HashMap<>();
                int most = 0;
                for (int kind = 0; kind < 6; kind++) {
                    int said = ofWords ? TermBoundTests.COSTS[kind][n - 3][j] : TermBoundTests.PLACES[kind][n - 3].charAt(j) - '0';
                    if ((bits >> kind & 1) == 1) {
                        most = Math.max(most, alike.merge(said, 1, Integer::sum));
                    }
                }
                if (most < fewest) {
                    fewest = most;
                    best = 10 * n + j;
                }
            }
        }
        return best;
    }

    private static void lookByEachNote() {
        for (int n = 3; n <= 6; n++) {
            for (int j = 0; j < 6; j++) {
                for (int x = 0; x < 6; x++) {
                    AcrosticLines a = seen(n, j, x);
                    C.same("27: the next look behind " + n + " " + j + " " + x, a.look(), best(a.is(), false));
                }
            }
        }
    }

    private static void lookWhereThereIsNone() {
        B.asks("27: no NOTES", AcrosticLines::new, a -> a.look(), 41);
        B.asks("27: no KIND", () -> seen(3, 0, 5), a -> a.look(), NONE);
        B.asks("27: one KIND: the least of all", Bounds::busy, a -> a.look(), 30);
        B.asks("27: two KINDS", () -> seen(3, 1, 2), a -> a.look(), 30);
    }

    private static AcrosticLines marked(int n, int j, int x) {
        AcrosticLines a = Bounds.alike(1, 2);
        a.mark(1, n, j, x);
        return a;
    }

    private static void kindsWithoutMarks() {
        B.asks("28: no MARKS: all", () -> Bounds.alike(1, 1), a -> a.kinds(0), 63);
        B.asks("28: a COST of 0", () -> marked(6, 0, 0), a -> a.kinds(1), 16);
        B.asks("28: a COST of 1 is none", () -> marked(3, 0, 1), a -> a.kinds(1), 0);
        B.asks("28: the greatest COST that is", () -> marked(6, 5, 11), a -> a.kinds(1), 8);
        B.asks("28: one more", () -> marked(6, 5, 12), a -> a.kinds(1), 0);
        B.asks("28: 20", () -> marked(6, 5, 20), a -> a.kinds(1), 0);
        AcrosticLines a = marked(6, 0, 0);
        a.mark(1, 6, 0, 6);
        C.same("28: not both can be", a.kinds(1), 0);
    }

    private static void kindsOfOneWordAlone() {
        AcrosticLines a = Bounds.alike(1, 8);
        a.mark(7, 6, 0, 0);
        a.mark(0, 6, 0, 9);
        C.same("28: the last WORD", a.kinds(7), 16);
        C.same("28: the first WORD", a.kinds(0), 2);
        C.same("28: a WORD without MARKS", a.kinds(3), 63);
        C.same("28: whatever its KIND is", a.of(7, 0), 0);
        // neither the WORD's own LENGTH nor M binds a MARK
        C.same("12: its LENGTH is another", a.of(7, 1), 3);
    }

    private static void askByEachMark() {
        for (int n = 3; n <= 6; n++) {
            for (int j = 0; j < 6; j++) {
                for (int x = 0; x <= 12; x++) {
                    AcrosticLines a = marked(n, j, x);
                    C.same("29: the next look behind " + n + " " + j + " " + x, a.ask(1), best(a.kinds(1), true));
                }
            }
        }
    }

    private static void askWhereThereIsNone() {
        B.asks("29: no MARKS", () -> Bounds.alike(1, 1), a -> a.ask(0), 30);
        B.asks("29: no KIND", () -> marked(3, 0, 20), a -> a.ask(1), NONE);
        B.asks("29: another WORD", () -> marked(3, 0, 20), a -> a.ask(0), 30);
        B.asks("29: one KIND: the least of all", () -> marked(6, 0, 0), a -> a.ask(1), 30);
        B.asks("29: SHORT and TAIL: LINE 3", () -> marked(3, 0, 2), a -> a.ask(1), 33);
        B.asks("29: PLAIN and WEAK: LINE 1", () -> marked(6, 0, 6), a -> a.ask(1), 31);
    }

    private static AcrosticLines filled(int m, int words, int standing) {
        AcrosticLines a = Bounds.alike(m, words);
        for (int j = 0; j < standing; j++) {
            a.puts(j, j);
        }
        return a;
    }

    private static void poetsWithoutALine() {
        for (int m = 1; m <= 6; m++) {
            int lines = m;
            Supplier<AcrosticLines> made = () -> filled(lines, 8, lines);
            B.asks("30: none of " + m + " LINES is empty", made, a -> a.poets(NONE), 0);
            B.asks("30: none of " + m + " LINES is empty", made, a -> a.poets(0), -5);
            B.asks("30: none of " + m + " LINES is empty", made, a -> a.poets(Bounds.GREATEST), -5);
        }
        // the last LINE alone is empty: whoever has the least number gets 6
        B.asks("30: the last LINE is empty", () -> filled(6, 8, 5), a -> a.poets(NONE), 4);
        B.asks("30: the last LINE is empty", () -> filled(6, 8, 5), a -> a.poets(0), 56);
    }

    private static void poetsWithoutWords() {
        B.asks("30: no WORDS", AcrosticLines::new, a -> a.poets(NONE), 0);
        B.asks("30: no WORDS", AcrosticLines::new, a -> a.poets(0), -5);
        B.asks("30: all WORDS are on LINES", () -> filled(3, 2, 2), a -> a.poets(NONE), 0);
        B.asks("30: all WORDS are on LINES", () -> filled(3, 2, 2), a -> a.poets(0), -5);
        B.asks("30: one WORD is left", () -> filled(3, 3, 2), a -> a.poets(NONE), 1);
        B.asks("30: the same, there is no other", () -> filled(3, 3, 2), a -> a.poets(0), 22);
        B.asks("30: no second pair", () -> filled(3, 3, 2), a -> a.poets(1), -5);
    }

    private static void poetsAtTheLastPair() {
        Supplier<AcrosticLines> made = () -> Bounds.alike(1, 4);
        int[] due = {1, 2, 3, 10, 20, 30};
        B.asks("30: how many", made, a -> a.poets(NONE), due.length);
        for (int k = 0; k < due.length; k++) {
            int which = k;
            B.asks("30: pair " + k, made, a -> a.poets(which), due[k]);
        }
        B.asks("30: one beyond the last", made, a -> a.poets(due.length), -5);
        B.asks("30: far beyond the last", made, a -> a.poets(Bounds.GREATEST), -5);
        B.refused("30: -2", made, a -> a.poets(-2), -10, -2);
    }

    private static AcrosticLines poets(int m, int target, int[]... words) {
        AcrosticLines a = new AcrosticLines();
        a.verse(0, m, target);
        for (int[] word : words) {
            a.word(word[0], word[1], word[2]);
        }
        return a;
    }

    private static void pairs(String what, AcrosticLines a, int... due) {
        C.same("30: " + what + ": how many", a.poets(NONE), due.length);
        for (int k = 0; k < due.length; k++) {
            C.same("30: " + what + ": pair " + k, a.poets(k), due[k]);
        }
        C.same("30: " + what + ": not so many", a.poets(due.length), -5);
    }

    private static void poetsWhoGainMostAndLeast() {
        // 9 less 0 beats 9 less 3
        pairs("a proud one at the head", poets(1, 0, new int[] {4, 3, 1}, new int[] {0, 3, 2}, new int[] {0, 3, 900}), 1, 2, 10, 20);
        // 9 less 9 is 0, as without: only the same is worse
        pairs("rare ones of 6", poets(1, 0, new int[] {1, 6, 1}, new int[] {1, 6, 2}), 1, 10);
        pairs("none FITS", poets(1, 5, new int[] {0, 3, 1}, new int[] {0, 3, 2}, new int[] {0, 3, 3}), 1, 2, 10, 12, 20, 21);
        // the dearer one gets nothing beside the cheaper one, whatever their numbers are
        pairs("unlike COSTS", poets(1, 0, new int[] {0, 4, 1}, new int[] {0, 3, 1}, new int[] {0, 5, 1}), 1, 10, 12, 21);
        pairs("like COSTS", poets(1, 0, new int[] {0, 4, 1}, new int[] {0, 4, 2}, new int[] {0, 4, 3}), 1, 2, 10, 20);
    }

    private static void poetsAtTheFirstEmptyLine() {
        AcrosticLines a = poets(2, 89, new int[] {0, 3, 800}, new int[] {0, 3, 801}, new int[] {0, 3, 900});
        pairs("LINE 0", a, 1, 2, 10, 20);
        a.puts(0, 1);
        pairs("LINE 1", a, 2, 20);
        a.takes(0);
        a.puts(1, 2);
        pairs("LINE 0 again", a, 1, 10);
        // on LINE 5 a weak one of 6 gets 9 less 11: less than for the same
        AcrosticLines b = poets(6, 5, new int[] {3, 6, 500000}, new int[] {0, 3, 900}, new int[] {0, 3, 901},
            new int[] {0, 3, 902}, new int[] {0, 3, 903}, new int[] {0, 3, 904}, new int[] {0, 3, 905});
        for (int j = 0; j < 5; j++) {
            b.puts(j, j + 2);
        }
        pairs("LINE 5", b, 11);
    }

    private static void fraction(String what, AcrosticLines a, long above, long below) {
        C.same("31: " + what, a.luck(), 1);
        C.same("33: above, " + what, a.part(0), above);
        C.same("33: below, " + what, a.part(1), below);
    }

    private static void luckWithFewWords() {
        fraction("no WORDS", new AcrosticLines(), 0, 1);
        for (int m = 1; m <= 6; m++) {
            fraction("a WORD too few for " + m, Bounds.alike(m, m - 1), 0, 1);
            fraction("just enough for " + m, Bounds.alike(m, m), 1, 1);
            fraction("8 WORDS for " + m, Bounds.alike(m, 8), 1, 1);
        }
        AcrosticLines a = Bounds.busy();
        a.verse(0, 3, 0);
        fraction("fewer WORDS than M take the place of 1 by 60", a, 0, 1);
        AcrosticLines b = Bounds.busy();
        b.form(1);
        fraction("no WAYS take the place of 1 by 60", b, 0, 1);
    }

    private static void luckInLowestTerms() {
        fraction("2 of 120", Bounds.busy(), 1, 60);
        AcrosticLines a = new AcrosticLines();
        a.verse(0, 6, 123456);
        for (int w = 1; w <= 8; w++) {
            a.word(0, 3, 100 * w);
        }
        fraction("one of all rows of 6 of 8", a, 1, 20160);
        AcrosticLines b = new AcrosticLines();
        b.verse(0, 1, 0);
        for (int w = 0; w < 8; w++) {
            b.word(0, 3, w < 6 ? w : 100 * w);
        }
        fraction("6 of 8", b, 3, 4);
        AcrosticLines c = Bounds.alike(2, 3);
        c.word(0, 3, 900);
        fraction("6 of 12", c, 1, 2);
        AcrosticLines d = Bounds.alike(1, 2);
        d.word(0, 3, 900);
        fraction("2 of 3", d, 2, 3);
    }

    private static void theFractionStays() {
        Bounds.Call[] calls = {a -> a.verse(0, 1, 0), a -> a.form(5), a -> a.word(0, 3, 1), a -> a.read(), a -> a.from(0),
            a -> a.clear(), a -> a.takes(0), a -> a.undo(), a -> a.ways(), a -> a.cheap(NONE), a -> a.evenings(3, 60), a -> a.forget(0)};
        for (int i = 0; i < calls.length; i++) {
            AcrosticLines a = Bounds.busy();
            calls[i].on(a);
            C.same("33: above stays, " + i, a.part(0), 1);
            C.same("33: below stays, " + i, a.part(1), 60);
        }
        AcrosticLines b = Bounds.busy();
        long others = b.count(4) + 10 * b.count(9) + 100 * b.count(7) + 1000 * b.count(10);
        b.luck();
        C.same("31: all else stays", b.count(4) + 10 * b.count(9) + 100 * b.count(7) + 1000 * b.count(10), others);
    }

    private static void noEvenings() {
        for (int seed : new int[] {0, 1, 999999}) {
            B.asks("32: no evenings from " + seed, () -> Bounds.alike(1, 8), a -> a.evenings(seed, 0), 0);
            B.asks("32: one evening from " + seed, () -> Bounds.alike(1, 8), a -> a.evenings(seed, 1), 1);
            B.asks("32: two evenings from " + seed, () -> Bounds.alike(1, 8), a -> a.evenings(seed, 2), 1);
            B.asks("32: 60 evenings from " + seed, () -> Bounds.alike(1, 8), a -> a.evenings(seed, 60), 30);
            B.asks("32: no WORDS, from " + seed, AcrosticLines::new, a -> a.evenings(seed, 60), 0);
            B.asks("32: too few WORDS, from " + seed, () -> Bounds.alike(6, 5), a -> a.evenings(seed, 60), 0);
        }
    }

    /** The evenings of words that all fit, by numbers that have no end to go around. */
    private static int evenings(int seed, int n, int m, int words) {
        BigInteger x = BigInteger.valueOf(seed);
        Map<Integer, Integer> lines = new HashMap<>();
        int spelled = 0;
        for (int i = 0; i < n; i++) {
            x = x.multiply(BigInteger.valueOf(1103515245)).add(BigInteger.valueOf(12345)).mod(BigInteger.ONE.shiftLeft(31));
            int line = x.divide(BigInteger.valueOf(65536)).mod(BigInteger.valueOf(m)).intValueExact();
            int word = x.divide(BigInteger.valueOf(1048576)).mod(BigInteger.valueOf(8)).intValueExact();
            if (lines.remove(line) == null && word < words && !lines.containsValue(word)) {
                lines.put(line, word);
            }
            spelled += lines.size() == m ? 1 : 0;
        }
        return spelled;
    }

    private static void eveningsBySeed() {
        int spelled = 0;
        for (int seed : new int[] {0, 1, 2, 7, 4095, 65535, 65536, 524288, 999998, 999999}) {
            for (int m = 1; m <= 6; m++) {
                for (int words : new int[] {m, 7, 8}) {
                    int due = evenings(seed, 60, m, words);
                    spelled += due;
                    AcrosticLines a = Bounds.alike(m, words);
                    C.same("32: seed " + seed + ", " + m + " LINES, " + words + " WORDS", a.evenings(seed, 60), due);
                    C.same("32: 59 of these", a.evenings(seed, 59), evenings(seed, 59, m, words));
                }
            }
        }
        C.holds("32: these seeds tell nothing", spelled > 100);
    }

    private static void eveningsFromEmptyLines() {
        AcrosticLines a = filled(3, 8, 3);
        C.same("32: whatever stands", a.evenings(1, 60), Bounds.alike(3, 8).evenings(1, 60));
        C.same("32: it stands behind them", a.count(4), 3);
        C.same("32: it may be undone behind them", a.count(9), 3);
        B.asks("32: nothing is changed", Bounds::busy, b -> b.evenings(999999, 60), 0);
    }

    private static void imagesNotKept() {
        B.refused("35: IMAGE 0 was not kept", AcrosticLines::new, a -> a.from(0), NO, NO);
        B.refused("35: IMAGE 1 was not kept", AcrosticLines::new, a -> a.from(1), NO, NO);
        for (int kept = 0; kept < 2; kept++) {
            int other = 1 - kept;
            AcrosticLines a = new AcrosticLines();
            C.same("34: IMAGE " + kept, a.image(kept), 1);
            C.same("35: the other one was not kept", a.from(other), NO);
            C.same("35: this one was", a.from(kept), 1);
            a.verse(0, 1, 0);
            C.same("35: behind a verse, too", a.from(kept), 1);
            C.same("35: the other one was not kept yet", a.from(other), NO);
            C.same("36: as NO", a.status(1), 2);
        }
        AcrosticLines b = new AcrosticLines();
        C.same("34: a refused IMAGE", b.image(2), -2);
        C.same("35: keeps none", b.from(0) + b.from(1), 2 * NO);
    }

    private static void imagesKeptAgain() {
        AcrosticLines a = Bounds.busy();
        long digest = a.digest();
        a.image(0);
        a.image(1);
        a.verse(0, 1, 0);
        C.same("35: IMAGE 0 as kept last", a.from(0), 1);
        a.clear();
        Bounds.type(a, "verse 2 1 2;word 1 0 1 2;put 1 0;");
        C.same("35: as kept last", a.digest(), digest);
        C.same("35: what may be undone is kept", a.undo(), 0);
        C.same("35: IMAGE 1 stays as kept", a.from(1), 1);
        C.same("35: as kept last", a.digest(), digest);
        for (int i = 0; i < 5; i++) {
            a.undo();
        }
        C.same("35: all of what may be undone", a.count(4), 0);
        C.same("35: no more", a.undo(), NO);
        C.same("35: a second time", a.from(1), 1);
        C.same("35: as kept last", a.digest(), digest);
        C.same("35: of a full one", Bounds.full().from(0), 1);
    }

    /** What may be undone in an image is not what was changed since. */
    private static void imagesKeepWhatMayBeUndone() {
        for (int image = 0; image < 2; image++) {
            AcrosticLines a = Bounds.full();
            a.image(image);
            a.verse(0, 6, 0);
            a.word(0, 3, 0);
            for (int i = 0; i < 9; i++) {
                a.puts(5 - i % 6, 0);
                a.takes(5 - i % 6);
            }
            a.from(image);
            AcrosticLines as = Bounds.full();
            for (int left = 8; left >= 0; left--) {
                C.same("35: that may be undone", a.count(9), left);
                for (int j = 0; j < 6; j++) {
                    C.same("35: LINE " + j + ", " + left + " may be undone", a.about(j, 0), as.about(j, 0));
                }
                C.same("35: undone in the image", a.undo(), as.undo());
            }
        }
    }

    private static void whatImagesLeave() {
        AcrosticLines a = Bounds.busy();
        a.clear();
        a.type('x');
        a.form(1);
        a.luck();
        C.same("35: from", a.from(0), 1);
        C.same("35: THE TEXT stays", a.count(10), 1);
        C.same("35: THE FRACTION stays", a.part(0), 0);
        C.same("35: THE FRACTION stays", a.part(1), 1);
        C.same("35: STATUS stays", Bounds.status(a).equals(List.of(1L, 2L, 3L)) ? 1 : 0, 1);
        C.same("35: the other IMAGE stays", a.from(1), 1);
        long[] due = {5, 4, 0, 1234, 1, 1, 9, 0, 1, 1, 1};
        for (int what = 0; what <= 10; what++) {
            C.same("35: count(" + what + ")", a.count(what), due[what]);
        }
        B.taken("34: an IMAGE changes nothing but itself", Bounds::busy, b -> b.image(0) == 1 ? b.digest() : 0, Bounds.busy().digest());
    }

    private static void statusOfEachReason() {
        AcrosticLines a = new AcrosticLines();
        for (int times = 0; times < 20; times++) {
            C.same("36: BAD", a.status(0), times);
            C.same("36: NO", a.status(1), 2 * times);
            C.same("36: FULL", a.status(2), 0);
            a.takes(3);
            a.takes(0);
            a.undo();
        }
        AcrosticLines b = Bounds.full();
        b.word(0, 3, 999);
        b.type('a');
        b.note(3, 0, 0);
        b.mark(0, 3, 0, 0);
        C.same("36: FULL", b.status(2), 4);
        C.same("36: no BAD", b.status(0), 0);
        C.same("36: no NO", b.status(1), 0);
    }

    private static void statusOfAnotherWhat() {
        AcrosticLines a = new AcrosticLines();
        int told = 0;
        for (int what : new int[] {-1, 3, 4, Bounds.LEAST, Bounds.GREATEST}) {
            C.same("36: another what", a.status(what), -1);
            told++;
            C.same("36: counts as BAD", a.status(0), told);
        }
        C.same("36: not as NO", a.status(1), 0);
        C.same("36: not as FULL", a.status(2), 0);
    }

    private static void whatStatusDoesNotCount() {
        B.asks("17: -6 is none", AcrosticLines::new, a -> a.cheap(NONE), -6);
        B.asks("30: -5 is none", AcrosticLines::new, a -> a.poets(0), -5);
        B.asks("7: a FAULT is none", AcrosticLines::new, a -> a.read(), -10);
        B.asks("16: NONE is none", AcrosticLines::new, a -> a.first(0), NONE);
        B.refused("17: -10 is BAD", AcrosticLines::new, a -> a.cheap(3), -10, -2);
        B.refused("30: -10 is BAD", AcrosticLines::new, a -> a.poets(-2), -10, -2);
    }

    private static void greatestCounts() {
        AcrosticLines a = Bounds.full();
        long[] due = {8, 6, 0, 0, 3, 3, 9, 6, 6, 8, 150};
        for (int what = 0; what <= 10; what++) {
            int counted = what;
            B.asks("37: count(" + what + ") of a full one", Bounds::full, b -> b.count(counted), due[what]);
        }
        a.verse(5, 6, 999999);
        for (int w = 0; w < 6; w++) {
            a.word(3, 6, 999999 - 100 * w);
            a.puts(w, w);
        }
        long[] then = {6, 6, 5, 999999, 6, 6, 51, 0, 0, 1, 150};
        for (int what = 0; what <= 10; what++) {
            C.same("37: count(" + what + ")", a.count(what), then[what]);
        }
    }

    private static long folded(List<Long> all) {
        BigInteger h = BigInteger.valueOf(1861);
        for (long v : all) {
            h = h.multiply(BigInteger.valueOf(31)).add(BigInteger.valueOf(v)).mod(BigInteger.ONE.shiftLeft(64));
        }
        return h.longValue();
    }

    private static List<Long> told(AcrosticLines a, int[]... seen) {
        List<Long> all = new ArrayList<>();
        for (int what = 0; what <= 10; what++) {
            all.add((long) a.count(what));
        }
        for (int w = 0; w < a.count(0); w++) {
            for (int what = 0; what < 3; what++) {
                all.add((long) a.of(w, what));
            }
        }
        for (int j = 0; j < a.count(1); j++) {
            all.add((long) a.about(j, 0));
        }
        for (int[] one : seen) {
            for (int v : one) {
                all.add((long) v);
            }
        }
        all.add(a.part(0));
        all.add(a.part(1));
        return all;
    }

    private static void digestWrapsAround() {
        AcrosticLines a = new AcrosticLines();
        B.asks("38: of a new object", AcrosticLines::new, b -> b.digest(), folded(told(a)));
        a.verse(0, 1, 0);
        C.same("38: of one LINE", a.digest(), folded(told(a)));
        AcrosticLines busy = Bounds.busy();
        long due = folded(told(busy, new int[] {3, 0, 0}, new int[] {6, 3, 3}, new int[] {1, 6, 2, 9}));
        B.asks("38: of the busy one", Bounds::busy, b -> b.digest(), due);
        AcrosticLines full = Bounds.full();
        int[][] seen = new int[12][];
        for (int j = 0; j < 6; j++) {
            seen[j] = new int[] {3 + j % 4, j, 0};
            seen[6 + j] = new int[] {j, 3 + j % 4, j, 3 + j % 4};
        }
        B.asks("38: of a full one", Bounds::full, b -> b.digest(), folded(told(full, seen)));
        AcrosticLines refusedOnce = Bounds.busy();
        refusedOnce.form(6);
        C.same("38: STATUS is not in it", refusedOnce.digest(), due);
        refusedOnce.image(0);
        C.same("38: IMAGES are not in it", refusedOnce.digest(), due);
        refusedOnce.clear();
        C.holds("38: how many bytes THE TEXT has is in it", refusedOnce.digest() != due);
    }
}
