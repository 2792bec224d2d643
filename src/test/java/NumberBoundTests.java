import java.util.function.Supplier;

/**
 * What each number of each call may be: the least and the most, one less and one more, by promise; and
 * which of BAD, NO, FULL comes first. A refused call changes nothing but STATUS.
 */
public final class NumberBoundTests {
    private static final Checks C = new Checks("NumberBoundTests");
    private static final Bounds B = new Bounds(C);
    private static final int LEAST = Bounds.LEAST, GREATEST = Bounds.GREATEST;
    private static final int NONE = Bounds.NONE, BAD = Bounds.BAD, NO = Bounds.NO, FULL = Bounds.FULL;

    public static void main(String[] args) {
        kindsOfForms();
        lines();
        codesOfTargets();
        kindsOfWords();
        lengths();
        codesOfWords();
        bytes();
        linesThatAreThere(1);
        linesThatAreThere(3);
        linesThatAreThere(6);
        linesOfTheBusyOne();
        unlikeLines();
        wordsThatAreThere(1);
        wordsThatAreThere(7);
        wordsThatAreThere(8);
        noWordIsThere();
        whats();
        rows();
        notes();
        marks();
        pairs();
        evenings();
        images();
        badComesFirst();
        noComesAheadOfFull();
        theEndsOfAllNumbers();
        C.end();
    }

    private static void kindsOfForms() {
        B.bound("2: the KIND of a FORM is 0 to 5", Bounds::busy, (a, x) -> a.verse(x, 3, 5), 0, 5);
        B.bound("3: the KIND of a FORM is 0 to 5", Bounds::busy, (a, x) -> a.form(x), 0, 5);
    }

    private static void lines() {
        B.bound("2: M is 1 to 6", Bounds::busy, (a, x) -> a.verse(0, x, 0), 1, 6);
        for (int m = 1; m <= 6; m++) {
            AcrosticLines a = Bounds.busy();
            C.same("2: verse of " + m, a.verse(0, m, 0), 5);
            C.same("2: M", a.count(1), m);
        }
    }

    private static void codesOfTargets() {
        for (int m = 1, nines = 9; m <= 6; m++, nines = 10 * nines + 9) {
            int lines = m;
            B.bound("2: the TARGET's CODE of " + m + " figures", Bounds::busy, (a, x) -> a.verse(0, lines, x), 0, nines);
            AcrosticLines a = new AcrosticLines();
            a.verse(0, m, nines);
            C.same("2: the TARGET's CODE", a.count(3), nines);
            a.verse(0, m, 0);
            C.same("2: the TARGET's CODE", a.count(3), 0);
        }
    }

    private static void kindsOfWords() {
        B.bound("4: the KIND of a WORD is 0 to 5", Bounds::busy, (a, x) -> a.word(x, 3, 5), 0, 5);
    }

    private static void lengths() {
        B.bound("4: the LENGTH is 3 to 6", Bounds::busy, (a, x) -> a.word(0, x, 5), 3, 6);
        B.bound("23: the LENGTH is 3 to 6", Bounds::busy, (a, x) -> a.note(x, 0, 0), 3, 6);
        B.bound("24: the LENGTH is 3 to 6", Bounds::busy, (a, x) -> a.mark(0, x, 0, 0), 3, 6);
    }

    private static void codesOfWords() {
        for (int n = 3, nines = 999; n <= 6; n++, nines = 10 * nines + 9) {
            int length = n;
            B.bound("4: the CODE of " + n + " figures", Bounds::busy, (a, x) -> a.word(0, length, x), 0, nines);
            AcrosticLines a = new AcrosticLines();
            a.word(0, n, nines);
            a.word(0, n, 0);
            C.same("4: the CODE of nines", a.of(0, 2), nines);
            C.same("4: the CODE of noughts", a.of(1, 2), 0);
        }
    }

    private static void bytes() {
        B.bound("5: a byte is 0 to 127", Bounds::busy, (a, x) -> a.type(x), 0, 127);
    }

    private static void linesThatAreThere(int m) {
        Supplier<AcrosticLines> empty = () -> Bounds.alike(m, 8);
        Supplier<AcrosticLines> filled = () -> filled(m);
        String of = ": of " + m + " LINES the last is " + (m - 1);
        B.bound("8" + of, empty, (a, x) -> a.puts(x, 7), 0, m - 1);
        B.bound("9" + of, filled, (a, x) -> a.takes(x), 0, m - 1);
        B.bound("13" + of, filled, (a, x) -> a.about(x, 0), 0, m - 1);
        B.bound("14" + of, filled, (a, x) -> a.fits(0, x), 0, m - 1);
        B.bound("16" + of, filled, (a, x) -> a.first(x), 0, m - 1);
        B.bound("17" + of, filled, (a, x) -> a.cheap(x), NONE, m - 1, -10);
        for (int j = 0; j < m; j++) {
            C.same("8: the WORD stands on LINE " + j, filled(m).about(j, 0), j);
            C.same("9: the WORD of LINE " + j, filled(m).takes(j), j);
        }
    }

    private static AcrosticLines filled(int m) {
        AcrosticLines a = Bounds.alike(m, 8);
        for (int j = 0; j < m; j++) {
            a.puts(j, j);
        }
        return a;
    }

    private static void linesOfTheBusyOne() {
        B.bound("9: takes", Bounds::busy, (a, x) -> a.takes(x), 0, 3);
        B.bound("13: about", Bounds::busy, (a, x) -> a.about(x, 1), 0, 3);
        B.bound("14: fits", Bounds::busy, (a, x) -> a.fits(3, x), 0, 3);
        B.bound("16: first", Bounds::busy, (a, x) -> a.first(x), 0, 3);
        B.bound("17: cheap", Bounds::busy, (a, x) -> a.cheap(x), NONE, 3, -10);
        B.refused("8: puts on LINE 4", Bounds::busy, a -> a.puts(4, 1), BAD, BAD);
        B.refused("8: puts on LINE -1", Bounds::busy, a -> a.puts(-1, 1), BAD, BAD);
        B.taken("8: puts on LINE 3", Bounds::busy, a -> a.puts(3, 3), 1);
    }

    private static void unlikeLines() {
        B.bound("10: the first LINE", Bounds::busy, (a, x) -> a.swaps(x, x == 3 ? 2 : 3), 0, 3);
        B.bound("10: the second LINE", Bounds::busy, (a, x) -> a.swaps(x == 0 ? 2 : 0, x), 0, 3);
        for (int j = 0; j < 4; j++) {
            int line = j;
            B.refused("10: LINE " + j + " with itself", Bounds::busy, a -> a.swaps(line, line), BAD, BAD);
        }
        B.refused("10: the one LINE that there is with itself", () -> filled(1), a -> a.swaps(0, 0), BAD, BAD);
        B.refused("10: one LINE alone", () -> filled(1), a -> a.swaps(0, 1), BAD, BAD);
        B.taken("10: two LINES", () -> filled(2), a -> a.swaps(0, 1), 2);
        B.taken("10: the first and the last of six", () -> filled(6), a -> a.swaps(5, 0), 6);
        B.refused("10: the sixth and a seventh", () -> filled(6), a -> a.swaps(5, 6), BAD, BAD);
    }

    private static void wordsThatAreThere(int words) {
        Supplier<AcrosticLines> made = () -> Bounds.alike(2, words);
        int last = words - 1;
        String of = ": of " + words + " WORDS the last is " + last;
        B.bound("8" + of, made, (a, x) -> a.puts(1, x), 0, last);
        B.bound("12" + of, made, (a, x) -> a.of(x, 0), 0, last);
        B.bound("14" + of, made, (a, x) -> a.fits(x, 1), 0, last);
        B.bound("24" + of, made, (a, x) -> a.mark(x, 3, 0, 3), 0, last);
        B.bound("28" + of, made, (a, x) -> a.kinds(x), 0, last);
        B.bound("29" + of, made, (a, x) -> a.ask(x), 0, last);
        C.same("12: the CODE of WORD " + last, made.get().of(last, 2), last);
        C.same("8: WORD " + last + " is put", made.get().puts(1, last), 1);
    }

    private static void noWordIsThere() {
        Supplier<AcrosticLines> made = AcrosticLines::new;
        B.refused("8: no WORDS", made, a -> a.puts(0, 0), BAD, BAD);
        B.refused("12: no WORDS", made, a -> a.of(0, 0), BAD, BAD);
        B.refused("14: no WORDS", made, a -> a.fits(0, 0), BAD, BAD);
        B.refused("24: no WORDS", made, a -> a.mark(0, 3, 0, 3), BAD, BAD);
        B.refused("28: no WORDS", made, a -> a.kinds(0), BAD, BAD);
        B.refused("29: no WORDS", made, a -> a.ask(0), BAD, BAD);
    }

    private static void whats() {
        B.bound("12: what of a WORD is 0 to 3", Bounds::busy, (a, x) -> a.of(4, x), 0, 3);
        B.bound("13: what of a LINE is 0 to 4", Bounds::busy, (a, x) -> a.about(2, x), 0, 4);
        B.bound("13: what of an empty LINE, too", Bounds::busy, (a, x) -> a.about(1, x), 0, 4);
        B.bound("19: NEEDED is 0, IDLE is 1", Bounds::busy, (a, x) -> a.needs(x), 0, 1);
        B.bound("25: NOTES are 0, MARKS 1", Bounds::busy, (a, x) -> a.forget(x), 0, 1);
        B.bound("33: above is 0, below 1", Bounds::busy, (a, x) -> a.part(x), 0, 1);
        B.bound("36: what of STATUS is 0 to 2", Bounds::busy, (a, x) -> a.status(x), 0, 2, -1);
        B.bound("37: what is counted is 0 to 10", Bounds::busy, (a, x) -> a.count(x), 0, 10);
    }

    private static void rows() {
        B.bound("22: n is 3 at most", Bounds::busy, (a, x) -> a.rows(x, 0), 1, 3);
        B.bound("22: how many is 0, the greatest 1", Bounds::busy, (a, x) -> a.rows(2, x), 0, 1);
        for (int m = 1; m <= 6; m++) {
            int lines = m;
            B.bound("22: n is M, " + m + ", at most", () -> Bounds.alike(lines, 4), (a, x) -> a.rows(x, 1), 1, Math.min(3, m));
        }
    }

    private static void notes() {
        B.bound("23: the LINE is 0 to 5, whatever M is", Bounds::busy, (a, x) -> a.note(3, x, 0), 0, 5);
        B.bound("23: the LINE is 0 to 5, M is 1", () -> Bounds.alike(1, 0), (a, x) -> a.note(3, x, 0), 0, 5);
        B.bound("23: the PLACE is 0 to 5, whatever the LENGTH is", Bounds::busy, (a, x) -> a.note(3, 0, x), 0, 5);
        B.bound("23: the PLACE is 0 to 5 of 6, too", Bounds::busy, (a, x) -> a.note(6, 0, x), 0, 5);
    }

    private static void marks() {
        B.bound("24: a WORD that is there", Bounds::busy, (a, x) -> a.mark(x, 3, 0, 0), 0, 4);
        B.bound("24: the LINE is 0 to 5, whatever M is", Bounds::busy, (a, x) -> a.mark(0, 3, x, 0), 0, 5);
        B.bound("24: the LINE is 0 to 5, M is 1", () -> Bounds.alike(1, 1), (a, x) -> a.mark(0, 3, x, 0), 0, 5);
        B.bound("24: the COST is 0 to 20", Bounds::busy, (a, x) -> a.mark(0, 3, 0, x), 0, 20);
    }

    private static void pairs() {
        B.bound("30: k is NONE or more", Bounds::busy, (a, x) -> a.poets(x), NONE, GREATEST, -10);
        B.bound("30: k is NONE or more, no LINE is empty", () -> filled(2), (a, x) -> a.poets(x), NONE, GREATEST, -10);
    }

    private static void evenings() {
        B.bound("32: the SEED is 0 to 999999", Bounds::busy, (a, x) -> a.evenings(x, 60), 0, 999999);
        B.bound("32: n is 0 to 60", Bounds::busy, (a, x) -> a.evenings(5, x), 0, 60);
    }

    private static void images() {
        B.bound("34: IMAGES are 0 and 1", Bounds::busy, (a, x) -> a.image(x), 0, 1);
        B.bound("35: IMAGES are 0 and 1", Bounds::busy, (a, x) -> a.from(x), 0, 1);
    }

    /** Where BAD and another reason hold, it is BAD. */
    private static void badComesFirst() {
        B.refused("4: a WORD there is already, of no KIND", Bounds::busy, a -> a.word(6, 3, 100), BAD, BAD);
        B.refused("4: a LENGTH that is none, full", Bounds::full, a -> a.word(0, 7, 100), BAD, BAD);
        B.refused("5: a byte that is none, full", Bounds::full, a -> a.type(128), BAD, BAD);
        B.refused("8: a LINE that has one, a WORD that is none", Bounds::busy, a -> a.puts(0, 5), BAD, BAD);
        B.refused("8: a LINE that is none, a WORD that is on one", Bounds::busy, a -> a.puts(4, 0), BAD, BAD);
        B.refused("10: an empty LINE with itself", Bounds::busy, a -> a.swaps(1, 1), BAD, BAD);
        B.refused("10: an empty LINE with one that is none", Bounds::busy, a -> a.swaps(1, 4), BAD, BAD);
        B.refused("23: a PLACE that is none, full", Bounds::full, a -> a.note(3, 0, 6), BAD, BAD);
        B.refused("24: a COST that is none, full", Bounds::full, a -> a.mark(0, 3, 0, 21), BAD, BAD);
        B.refused("24: a WORD that is none, full", Bounds::full, a -> a.mark(8, 3, 0, 0), BAD, BAD);
        B.refused("35: an IMAGE that is none, none was kept", AcrosticLines::new, a -> a.from(2), BAD, BAD);
    }

    private static void noComesAheadOfFull() {
        B.refused("4: a WORD there is already, full", Bounds::full, a -> a.word(5, 3, 7), NO, NO);
        B.refused("4: a new WORD, full", Bounds::full, a -> a.word(5, 3, 8), FULL, FULL);
    }

    /** No number may lead around an end: all of a call's numbers at the ends of all numbers. */
    private static void theEndsOfAllNumbers() {
        for (int x : new int[] {LEAST, LEAST + 1, GREATEST - 1, GREATEST}) {
            for (int y : new int[] {LEAST, -1, 0, GREATEST}) {
                endsOfTwo(x, y);
                endsOfTwo(y, x);
            }
        }
    }

    private static void endsOfTwo(int x, int y) {
        String ends = " of " + x + ", " + y;
        B.refused("2: verse" + ends, Bounds::busy, a -> a.verse(x, y, x), BAD, BAD);
        B.refused("4: word" + ends, Bounds::busy, a -> a.word(x, y, y), BAD, BAD);
        B.refused("8: puts" + ends, Bounds::busy, a -> a.puts(x, y), BAD, BAD);
        B.refused("10: swaps" + ends, Bounds::busy, a -> a.swaps(x, y), BAD, BAD);
        B.refused("12: of" + ends, Bounds::busy, a -> a.of(x, y), BAD, BAD);
        B.refused("13: about" + ends, Bounds::busy, a -> a.about(x, y), BAD, BAD);
        B.refused("14: fits" + ends, Bounds::busy, a -> a.fits(x, y), BAD, BAD);
        B.refused("22: rows" + ends, Bounds::busy, a -> a.rows(x, y), BAD, BAD);
        B.refused("23: note" + ends, Bounds::busy, a -> a.note(y, x, y), BAD, BAD);
        B.refused("24: mark" + ends, Bounds::busy, a -> a.mark(x, y, x, y), BAD, BAD);
        B.refused("32: evenings" + ends, Bounds::busy, a -> a.evenings(x, y), BAD, BAD);
    }
}
