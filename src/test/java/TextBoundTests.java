import java.util.function.Supplier;

/** THE TEXT, its TOKENS, and each case of FAULT: what still stands, and what stands no longer (promises 5, 6, 7). */
public final class TextBoundTests {
    private static final Checks C = new Checks("TextBoundTests");
    private static final Bounds B = new Bounds(C);
    private static final int FULL = Bounds.FULL;
    private static final String ONE = "verse 0 1;word 0 1 2 3;";

    public static void main(String[] args) {
        mostBytes();
        everyByteIsKept();
        cleared();
        emptyTexts();
        longestText();
        endsTooEarly();
        wordsThatAreNone();
        verseFirstOfAll();
        kindsOfForms();
        lettersOfTheVerse();
        kindsOfWords();
        lettersOfWords();
        ninthWord();
        knownWord();
        runsOfFigures();
        numbersWithANoughtAhead();
        linesToPutOn();
        wordsToPut();
        linesToTake();
        itemsEnd();
        blanks();
        bytesThatBeginNone();
        whatAReadVerseReplaces();
        whatAReadVerseLeaves();
        itemsAreCounted();
        C.end();
    }

    private static Supplier<AcrosticLines> typed(String text) {
        return () -> {
            AcrosticLines a = Bounds.busy();
            Bounds.type(a, text);
            return a;
        };
    }

    private static AcrosticLines told(String text) {
        AcrosticLines a = typed(text).get();
        a.read();
        return a;
    }

    /** It is read; STATUS counts nothing. */
    private static void items(String text, int items) {
        B.taken("7: ITEMS of '" + text + "'", typed(text), a -> a.read(), items);
    }

    /** It is not read: all stays, STATUS too. */
    private static void fault(String text, int place) {
        B.asks("7: FAULT of '" + text + "'", typed(text), a -> a.read(), -10 - place);
    }

    /** The FAULT is where the ^ stands. */
    private static void fault(String marked) {
        int place = marked.indexOf('^');
        fault(marked.substring(0, place) + marked.substring(place + 1), place);
    }

    private static AcrosticLines typed(int bytes) {
        AcrosticLines a = new AcrosticLines();
        for (int i = 0; i < bytes; i++) {
            a.type(' ');
        }
        return a;
    }

    private static void mostBytes() {
        B.taken("5: the first byte", () -> typed(0), a -> a.type('a'), 1);
        B.taken("5: the 150th byte", () -> typed(149), a -> a.type('a'), 150);
        B.refused("5: the 151st byte", () -> typed(150), a -> a.type('a'), FULL, FULL);
        B.refused("5: of a text that can be read", Bounds::full, a -> a.type(';'), FULL, FULL);
        AcrosticLines a = typed(150);
        a.clear();
        C.same("5: room again", a.type('a'), 1);
    }

    private static void everyByteIsKept() {
        for (int c = 0; c <= 127; c++) {
            AcrosticLines a = new AcrosticLines();
            a.type(c);
            a.type(';');
            boolean isBlank = c == 32;
            C.same("5: byte " + c, a.count(10), 2);
            // no byte can stand there: the FAULT is at it, or at the ; behind a blank
            C.same("7: byte " + c, a.read(), isBlank ? -11 : -10);
        }
    }

    private static void cleared() {
        B.taken("6: an empty TEXT", AcrosticLines::new, a -> a.clear(), 0);
        B.taken("6: a TEXT of one byte", () -> typed(1), a -> a.clear(), 1);
        B.taken("6: a full TEXT", Bounds::full, a -> a.clear(), 150);
        AcrosticLines a = Bounds.full();
        a.clear();
        C.same("6: it is empty", a.count(10), 0);
        C.same("6: it is empty", a.clear(), 0);
        C.same("6: an empty one is read", a.read(), -10);
        AcrosticLines b = Bounds.busy();
        long rest = b.count(0) + 10 * b.count(4) + 100 * b.count(9);
        b.clear();
        C.same("6: all else stays", b.count(0) + 10 * b.count(4) + 100 * b.count(9), rest);
    }

    private static void emptyTexts() {
        fault("^");
        fault(" ^");
        fault("     ^");
        fault(" ".repeat(150), 150);
        C.same("7: of a new object", new AcrosticLines().read(), -10);
    }

    private static void longestText() {
        String verse = "verse 0 1;";
        items(" ".repeat(150 - verse.length()) + verse, 1);
        items(verse + " ".repeat(150 - verse.length()), 1);
        fault(" ".repeat(150 - verse.length() + 1) + "verse 0 1", 150);
        fault(" ".repeat(149) + "v", 149);
        fault(" ".repeat(149) + ";", 149);
        StringBuilder most = new StringBuilder("verse 0 1;word 0 1 2 3;");
        int items = 2;
        while (most.length() + 15 <= 150) {
            most.append("put 0 0;take 0;");
            items += 2;
        }
        items(most.toString(), items);
    }

    private static void endsTooEarly() {
        String whole = "verse 0 1 ;word 0 1 2 3 ;put 0 0 ;take 0 ;";
        int[] items = {11, 25, 34, 42};
        for (int cut = 0; cut <= whole.length(); cut++) {
            String text = whole.substring(0, cut);
            boolean isWhole = false;
            for (int i = 0; i < 4; i++) {
                if (cut == items[i]) {
                    items(text, i + 1);
                    isWhole = true;
                }
            }
            if (!isWhole && !endsInAName(text)) {
                fault(text, cut);
                fault(text + "  ", cut + 2);
            }
        }
        items(whole, 4);
    }

    private static boolean endsInAName(String text) {
        boolean isLetter = !text.isEmpty() && text.charAt(text.length() - 1) >= 'a';
        return isLetter && !text.endsWith("verse") && !text.endsWith("word") && !text.endsWith("put") && !text.endsWith("take");
    }

    private static void wordsThatAreNone() {
        for (String none : new String[] {"v", "vers", "verses", "versea", "versez", "averse", "verze", "terse", "x",
            "word", "put", "take"}) {
            fault(none + " 0 1;", 0);
            fault("  " + none + " 0 1;", 2);
        }
        for (String none : new String[] {"w", "wor", "words", "wordz", "lord", "wo", "worm", "pu", "puts", "pot", "but", "pub",
            "tak", "takes", "taken", "cake", "tale", "zzz", "versewordputtake"}) {
            fault(ONE + none + " 0 0;", 23);
            fault(ONE + none, 23);
        }
        fault("^vers");
        fault("  ^verses");
        fault("verse ^take 1;");
        fault("verse 0 ^a;");
        fault("verse 0 1 ^a;");
        fault("verse ^verse 0 1;");
        fault(ONE + "put ^put 0;");
        fault(ONE + "put 0 ^put;");
        fault(ONE + "put 0 0 ^put 0 0;");
        fault(ONE + "put 0 0;take ^take;");
        fault(ONE + "put 0 0;take 0 ^take;");
        fault(ONE + "word ^word;");
    }

    private static void verseFirstOfAll() {
        items("verse 0 1;", 1);
        fault("^word 0 1 2 3;verse 0 1;");
        fault("^put 0 0;verse 0 1;");
        fault("^take 0;verse 0 1;");
        fault("^;verse 0 1;");
        fault("^0 verse 0 1;");
        fault("verse 0 1;^verse 0 1;");
        fault("verse 0 1;^verse");
        fault(ONE + "^verse 0 1;");
        fault(ONE + " ^verse");
    }

    private static void kindsOfForms() {
        for (int kind = 0; kind <= 5; kind++) {
            items("verse " + kind + " 1;", 1);
            C.same("7: the KIND of the FORM", told("verse " + kind + " 1;").count(2), kind);
        }
        fault("verse ^6 1;");
        fault("verse ^9 1;");
        fault("verse ^10 1;");
        fault("verse ^99 1;");
        fault("verse ^-1 1;");
        fault("verse ^;");
        fault("verse^;");
    }

    private static void lettersOfTheVerse() {
        StringBuilder text = new StringBuilder("verse 0");
        fault(text + ";", 7);
        fault(text + " ;", 8);
        int target = 0;
        for (int m = 1; m <= 6; m++) {
            text.append(' ').append(m == 3 ? 0 : 9);
            target = 10 * target + (m == 3 ? 0 : 9);
            items(text + ";", 1);
            C.same("7: M", told(text + ";").count(1), m);
            C.same("7: the TARGET", told(text + ";").count(3), target);
        }
        fault(text + " 9;", 20);
        fault(text + " 9", 20);
        fault(text + " 10;", 20);
        fault(text + " 9 9 9", 20);
        items("verse 0 0;", 1);
        items("verse 0 9;", 1);
        fault("verse 0 ^10;");
        fault("verse 0 ^99;");
        fault("verse 0 1 ^10;");
        fault("verse 0 1 2 3 4 5 ^10;");
    }

    private static void kindsOfWords() {
        for (int kind = 0; kind <= 5; kind++) {
            items("verse 0 1;word " + kind + " 1 2 3;", 2);
            C.same("7: the KIND of the WORD", told("verse 0 1;word " + kind + " 1 2 3;").of(0, 0), kind);
        }
        fault("verse 0 1;word ^6 1 2 3;");
        fault("verse 0 1;word ^10 1 2 3;");
        fault("verse 0 1;word ^;");
        fault("verse 0 1;word^;");
    }

    private static void lettersOfWords() {
        StringBuilder text = new StringBuilder("verse 0 1;word 0");
        fault(text + ";", 16);
        fault(text + " 1;", 18);
        fault(text + " 1 2;", 20);
        text.append(" 0 9");
        int code = 9;
        for (int n = 3; n <= 6; n++) {
            text.append(" ").append(n);
            code = 10 * code + n;
            items(text + ";", 2);
            C.same("7: the LENGTH", told(text + ";").of(0, 1), n);
            C.same("7: the CODE", told(text + ";").of(0, 2), code);
        }
        fault(text + " 7;", 29);
        fault(text + " 7", 29);
        fault(text + " 10;", 29);
        fault("verse 0 1;word 0 ^10 2 3;");
        fault("verse 0 1;word 0 1 2 ^10;");
        fault("verse 0 1;word 0 1 2 3 4 5 ^10;");
    }

    private static String words(int many) {
        StringBuilder text = new StringBuilder("verse 0 1;");
        for (int w = 0; w < many; w++) {
            text.append("word 0 1 2 ").append(w).append(';');
        }
        return text.toString();
    }

    private static void ninthWord() {
        items(words(7), 8);
        items(words(8), 9);
        C.same("7: eight WORDS", told(words(8)).count(0), 8);
        fault(words(8) + "^word 0 1 2 8;");
        fault(words(8) + "^word");
        fault(words(8) + "^word 0 1 2 7;");
        fault(words(8) + "^word x");
        items(words(8) + "put 0 7;", 10);
    }

    private static void knownWord() {
        fault(ONE + "word 0 1 2 3^;");
        fault(ONE + "word 5 1 2 3 ^;");
        fault(ONE + "word 0 01 2 3^;");
        fault(ONE + "word 0 1 2 3^");
        items(ONE + "word 0 1 2 4;", 3);
        items(ONE + "word 0 1 2 3 0;", 3);
        items(ONE + "word 0 0 1 2 3;", 3);
        items("verse 0 1;word 0 0 1 2;word 0 0 0 1 2;word 0 0 0 0 1 2;", 4);
        fault("verse 0 1;word 0 0 0 1 2;word 0 0 1 2;word 1 0 0 1 2^;");
        items("verse 0 1;word 0 1 0 0;word 0 2 0 0;", 3);
        // the WORDS that stood ahead of it are none of its own
        items("verse 0 1;word 0 1 0 0;", 2);
    }

    private static void runsOfFigures() {
        fault("verse ^000 1;");
        fault("verse 0 ^001;");
        fault("verse 0 ^0000001;");
        fault("verse 0 ^123;");
        fault("verse 0 1 ^999999999999999999999;");
        fault("^123");
        fault(" ^12 verse 0 1;");
        fault("verse 0 1;^123");
        fault("verse 0 1;^12");
        fault("verse 0 1;^1");
        fault("verse 0 1;word ^100 1 2 3;");
        fault("verse 0 1;word 0 1 2 ^003;");
        fault(ONE + "put ^000 0;");
        fault(ONE + "put 0 ^000;");
        fault(ONE + "put 0 0;take ^000;");
        fault("verse ^0123;");
    }

    private static void numbersWithANoughtAhead() {
        items("verse 05 01;word 00 01 02 03;put 00 00;take 00;", 4);
        C.same("7: two figures are one number", told("verse 05 01 1;").count(2), 5);
        C.same("7: two figures are one number", told("verse 05 01 1;").count(3), 11);
        fault("verse 00^;");
        fault("verse 0 1;word 0 01 02^;");
        fault("verse ^06 1;");
    }

    private static void linesToPutOn() {
        items(ONE + "put 0 0;", 3);
        fault(ONE + "put ^1 0;");
        String six = "verse 0 1 2 3 4 5 6;word 0 1 2 3;word 0 1 2 4;";
        for (int j = 0; j < 6; j++) {
            items(six + "put " + j + " 0;", 4);
            C.same("7: the WORD on LINE " + j, told(six + "put " + j + " 1;").about(j, 0), 1);
        }
        fault(six + "put ^6 0;");
        fault(six + "put ^10 0;");
        fault(six + "put ^;");
        fault(six + "put^");
        fault(six + "put 0 0;put ^0 1;");
        items(six + "put 0 0;put 1 1;", 5);
        items(six + "put 0 0;take 0;put 0 1;", 6);
    }

    private static void wordsToPut() {
        String six = "verse 0 1 2 3 4 5 6;word 0 1 2 3;word 0 1 2 4;";
        items(six + "put 0 1;", 4);
        fault(six + "put 0 ^2;");
        fault(six + "put 0 ^10;");
        fault(six + "put 0 ^;");
        fault(six + "put 0^;");
        fault("verse 0 1;put 0 ^0;");
        fault("verse 0 1;put 0 ^0;word 0 1 2 3;");
        fault(six + "put 0 1;put 1 ^1;");
        items(six + "put 0 1;take 0;put 1 1;", 6);
        fault(six + "put 0 1 ^0;");
    }

    private static void linesToTake() {
        items(ONE + "put 0 0;take 0;", 4);
        C.same("7: it is taken", told(ONE + "put 0 0;take 0;").about(0, 0), -1);
        fault(ONE + "take ^0;");
        fault(ONE + "put 0 0;take ^1;");
        fault(ONE + "put 0 0;take ^6;");
        fault(ONE + "put 0 0;take ^10;");
        fault(ONE + "put 0 0;take 0;take ^0;");
        fault(ONE + "put 0 0;take ^;");
        fault(ONE + "put 0 0;take^;");
        fault(ONE + "put 0 0;take 0 ^0;");
    }

    private static void itemsEnd() {
        fault("verse 0 1;^;");
        fault("verse 0 1; ^;");
        fault("verse 0 1 ^word 0 1 2 3;");
        fault(ONE + "put 0 0 ^take 0;");
        fault(ONE + "^;");
    }

    private static void blanks() {
        items("   verse   0    1   ;   word  0  1  2  3  ;  put  0  0  ;  take 0 ;  ", 4);
        items("verse0 1;word0 1 2 3;put0 0;take0;", 4);
        items("verse 0 1;word 0 1 2 3;put 0 0;take 0;", 4);
        fault("^ver se 0 1;");
        fault("verse0 1;put 00^;");
        fault("verse 01^;");
        fault("verse 0 1 ; ^;");
        for (char other : new char[] {'\t', '\n', '\r', 0, 31, 33}) {
            fault("verse" + other + "0 1;", 5);
            fault("verse 0 1;" + other, 10);
        }
    }

    private static void bytesThatBeginNone() {
        for (int c = 0; c <= 127; c++) {
            boolean begins = c == ' ' || c == ';' || c >= '0' && c <= '9' || c >= 'a' && c <= 'z';
            if (!begins) {
                fault((char) c + "verse 0 1;", 0);
                fault("verse 0 1" + (char) c + ";", 9);
                fault("verse 0 1;" + (char) c, 10);
            }
        }
        fault("^Verse 0 1;");
        fault("^verSe 0 1;");
        fault("verse^S 0 1;");
        fault("verse 0 1^:");
        fault("verse 0 1^/");
        fault("verse 0 1^`");
        fault("verse 0 1^{");
        fault("verse ^+1 1;");
        fault("verse ^-0 1;");
        fault("verse 0^.1;");
    }

    private static void whatAReadVerseReplaces() {
        AcrosticLines a = told("verse 2 1 2;word 1 0 1 2;put 1 0;");
        long[] due = {1, 2, 2, 12, 1, 0, 6, 0, 0, 0, 33};
        for (int what = 0; what <= 10; what++) {
            C.same("7: count(" + what + ") behind a VERSE that is read", a.count(what), due[what]);
        }
        C.same("7: the LINE that it leaves empty", a.about(0, 0), -1);
        C.same("7: the WORD on its LINE", a.about(1, 0), 0);
        C.same("7: no NOTES", a.is(), 63);
        C.same("7: no MARKS", a.kinds(0), 63);
        B.refused("7: nothing to undo", () -> told("verse 0 1;word 0 1 2 3;put 0 0;"), b -> b.undo(), -3, -3);
        AcrosticLines none = told("verse 0 1;");
        C.same("7: no WORDS", none.count(0), 0);
        C.same("7: no WORDS", none.ways(), 0);
    }

    private static void whatAReadVerseLeaves() {
        AcrosticLines a = Bounds.busy();
        String status = Bounds.status(a).toString();
        a.read();
        C.holds("7: STATUS stays", Bounds.status(a).toString().equals(status));
        C.same("7: THE FRACTION stays", a.part(0), 1);
        C.same("7: THE FRACTION stays", a.part(1), 60);
        C.same("7: THE TEXT stays", a.count(10), 33);
        C.same("7: it is read again", a.read(), 3);
        C.same("7: IMAGE 0 stays", a.from(0), 1);
        C.same("7: IMAGE 0 stays", a.count(0), 2);
        C.same("7: IMAGE 1 stays", a.from(1), 1);
        C.same("7: IMAGE 1 stays", a.count(0), 5);
    }

    private static void itemsAreCounted() {
        items("verse 0 1;", 1);
        items("verse 0 1; ", 1);
        items(ONE, 2);
        items(ONE + "put 0 0;", 3);
        items(ONE + "put 0 0;take 0;", 4);
        items("verse 2 1 2;word 1 0 1 2;put 1 0;", 3);
    }
}
