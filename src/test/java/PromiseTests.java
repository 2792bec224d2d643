/** Each promise of the document by its number: ordinary inputs, edges, wrong inputs. */
public final class PromiseTests {
    private static final int LEAST = Integer.MIN_VALUE, GREATEST = Integer.MAX_VALUE;
    private static final Checks C = new Checks("PromiseTests");

    public static void main(String[] args) {
        promise1();
        promise2();
        codesByLength();
        promise3();
        promise4();
        promises5And6();
        promise7();
        promise8();
        promise9();
        promise10();
        promise11();
        promise12();
        promise13();
        promise14();
        promise15();
        promise16();
        promise17();
        promise18();
        promise19();
        promise20();
        promise21();
        promise22();
        promise23();
        promise24();
        promise25();
        promise26();
        promise27();
        promise28();
        promise29();
        promise30();
        promises31And33();
        promise32();
        promises34And35();
        promise36();
        promise37();
        promise38();
        C.end();
    }

    /** A verse of four lines, spelled by words 0 to 3 in their order, 4 fits line 1, too. */
    private static AcrosticLines four() {
        AcrosticLines a = new AcrosticLines();
        a.verse(0, 4, 1234);
        a.word(0, 3, 100);
        a.word(1, 3, 200);
        a.word(2, 5, 30000);
        a.word(3, 4, 4000);
        a.word(2, 6, 200000);
        return a;
    }

    private static void type(AcrosticLines a, String text) {
        a.clear();
        for (int i = 0; i < text.length(); i++) {
            a.type(text.charAt(i));
        }
    }

    /** Wrong calls: each must be refused with this answer, and change nothing but STATUS. */
    private static void refused(AcrosticLines a, String what, int reason, long digest, int told, long answer, long due) {
        C.same(what, answer, due);
        C.same(what + ": digest behind it", a.digest(), digest);
        C.same(what + ": status behind it", a.status(-2 - reason), told + 1);
    }

    private static void promise1() {
        AcrosticLines a = new AcrosticLines();
        long[] due = {0, 3, 0, 0, 0, 0, 0, 0, 0, 0, 0};
        for (int what = 0; what <= 10; what++) {
            C.same("1: count(" + what + ")", a.count(what), due[what]);
        }
        for (int j = 0; j < 3; j++) {
            C.same("1: about(j, 0)", a.about(j, 0), -1);
            C.same("1: about(j, 4)", a.about(j, 4), 0);
        }
        C.same("1: part(0)", a.part(0), 0);
        C.same("1: part(1)", a.part(1), 1);
        C.same("1: from(0)", a.from(0), -3);
        C.same("1: from(1)", a.from(1), -3);
        C.same("1: status(0)", a.status(0), 0);
        C.same("1: status(1)", a.status(1), 2);
        C.same("1: status(2)", a.status(2), 0);
    }

    private static void promise2() {
        AcrosticLines a = four();
        a.puts(0, 0);
        a.note(3, 0, 0);
        a.mark(0, 3, 0, 3);
        a.luck();
        a.image(1);
        type(a, "ab");
        C.same("2: verse", a.verse(5, 6, 999999), 5);
        long[] due = {0, 6, 5, 999999, 0, 0, 0, 0, 0, 0, 2};
        for (int what = 0; what <= 10; what++) {
            C.same("2: count(" + what + ")", a.count(what), due[what]);
        }
        C.same("2: THE FRACTION stays", a.part(1), 60);
        C.same("2: letter 5", a.about(5, 4), 9);
        C.same("2: line 0 is empty", a.about(0, 0), -1);
        C.same("2: IMAGES stay", a.from(1), 1);
        C.same("2: noughts ahead", a.verse(0, 3, 7), 5);
        C.same("2: noughts ahead, letter 0", a.about(0, 4), 0);
        C.same("2: noughts ahead, letter 2", a.about(2, 4), 7);
        C.same("2: one line", a.verse(0, 1, 9), 0);
        int[][] bad = {{-1, 3, 0}, {6, 3, 0}, {0, 0, 0}, {0, 7, 0}, {0, 3, -1}, {0, 3, 1000}, {0, 1, 10},
            {0, 6, 1000000}, {LEAST, 3, 0}, {0, GREATEST, 0}, {0, LEAST, 0}, {0, 3, GREATEST}, {0, 3, LEAST}};
        for (int[] b : bad) {
            refused(a, "2: verse", -2, a.digest(), a.status(0), a.verse(b[0], b[1], b[2]), -2);
        }
    }

    /** The greatest code of each length is as told, one more is not. */
    private static void codesByLength() {
        AcrosticLines a = new AcrosticLines();
        int nines = 0;
        for (int n = 1; n <= 6; n++) {
            nines = 10 * nines + 9;
            C.same("2: " + n + " nines", a.verse(0, n, nines), 0);
            C.same("2: the target's code", a.count(3), nines);
            C.same("2: more than " + n + " nines", a.verse(0, n, nines + 1), -2);
        }
        for (int n = 3, code = 999; n <= 6; n++, code = 10 * code + 9) {
            C.same("4: " + n + " nines", a.word(0, n, code), n - 3);
            C.same("4: the word's code", a.of(n - 3, 2), code);
            C.same("4: more than " + n + " nines", a.word(0, n, code + 1), -2);
        }
    }

    private static void promise3() {
        AcrosticLines a = new AcrosticLines();
        a.verse(0, 6, 0);
        a.word(0, 5, 12345);
        int[][] letters = {{1, 1, 1, 1, 1, 1}, {5, 5, 5, 5, 5, 5}, {3, 3, 3, 3, 3, 3},
            {1, 2, 3, 4, 5, 1}, {5, 4, 3, 2, 1, 5}, {1, 5, 1, 5, 1, 5}};
        for (int kind = 0; kind < 6; kind++) {
            C.same("3: form", a.form(kind), kind == 0 ? 0 : kind - 1);
            for (int j = 0; j < 6; j++) {
                a.puts(j, 0);
                C.same("3: form " + kind + " on line " + j, a.about(j, 1), letters[kind][j]);
                a.takes(j);
            }
        }
        a.word(0, 4, 1234);
        a.form(2);
        a.puts(0, 1);
        C.same("3: the middle of four", a.about(0, 1), 3);
        a.form(4);
        C.same("3: back on line 0", a.about(0, 1), 4);
        C.same("3: nothing may be undone behind a form told", a.undo(), -3);
        a.takes(0);
        for (int kind : new int[] {-1, 6, LEAST, GREATEST}) {
            refused(a, "3: form", -2, a.digest(), a.status(0), a.form(kind), -2);
        }
        C.same("3: a refused form leaves what may be undone", a.count(9), 1);
        a.form(4);
        C.same("3: the same form, too, ends undoing", a.count(9), 0);
    }

    private static void promise4() {
        AcrosticLines a = new AcrosticLines();
        C.same("4: word", a.word(5, 6, 999999), 0);
        C.same("4: word", a.word(0, 3, 0), 1);
        a.puts(0, 1);
        C.same("4: another length", a.word(0, 4, 0), 2);
        C.same("4: nothing may be undone behind a word", a.count(9), 0);
        a.takes(0);
        refused(a, "4: known", -3, a.digest(), a.status(1), a.word(3, 3, 0), -3);
        int[][] bad = {{-1, 3, 5}, {6, 3, 5}, {0, 2, 5}, {0, 7, 5}, {0, 3, -1}, {0, 3, 1000}, {0, 5, 100000},
            {0, LEAST, 0}, {0, GREATEST, 0}, {0, 6, GREATEST}, {6, 3, 0}};
        for (int[] b : bad) {
            refused(a, "4: word", -2, a.digest(), a.status(0), a.word(b[0], b[1], b[2]), -2);
        }
        C.same("4: a refused word leaves what may be undone", a.count(9), 1);
        for (int w = 3; w < 8; w++) {
            C.same("4: word", a.word(0, 3, w), w);
        }
        refused(a, "4: full", -4, a.digest(), a.status(2), a.word(0, 3, 9), -4);
        refused(a, "4: no goes ahead of full", -3, a.digest(), a.status(1), a.word(0, 3, 3), -3);
        refused(a, "4: bad goes ahead of full", -2, a.digest(), a.status(0), a.word(6, 3, 3), -2);
    }

    private static void promises5And6() {
        AcrosticLines a = new AcrosticLines();
        C.same("6: clear of none", a.clear(), 0);
        C.same("5: type", a.type(0), 1);
        C.same("5: type", a.type(127), 2);
        for (int c : new int[] {-1, 128, LEAST, GREATEST}) {
            refused(a, "5: type", -2, a.digest(), a.status(0), a.type(c), -2);
        }
        for (int i = 3; i <= 150; i++) {
            C.same("5: type", a.type('a'), i);
        }
        refused(a, "5: full", -4, a.digest(), a.status(2), a.type('a'), -4);
        refused(a, "5: bad goes ahead of full", -2, a.digest(), a.status(0), a.type(128), -2);
        C.same("5: count(10)", a.count(10), 150);
        C.same("6: clear", a.clear(), 150);
        C.same("6: clear again", a.clear(), 0);
        C.same("6: count(10)", a.count(10), 0);
    }

    private static void promise7() {
        AcrosticLines a = four();
        a.note(3, 0, 0);
        a.mark(0, 3, 0, 3);
        a.puts(0, 0);
        a.luck();
        a.image(0);
        String text = "  verse 4 9 08 7;word 5 1 2 3 4 ; word0 0 0 1;put 2 01;put 0 0;take 2;put 1 1 ; ";
        type(a, text);
        C.same("7: read", a.read(), 7);
        long[] due = {2, 3, 4, 987, 2, 0, 5, 0, 0, 0, text.length()};
        for (int what = 0; what <= 10; what++) {
            C.same("7: count(" + what + ")", a.count(what), due[what]);
        }
        C.same("7: of(0, 0)", a.of(0, 0), 5);
        C.same("7: of(0, 1)", a.of(0, 1), 4);
        C.same("7: of(0, 2)", a.of(0, 2), 1234);
        C.same("7: of(1, 2)", a.of(1, 2), 1);
        C.same("7: of(1, 3)", a.of(1, 3), 1);
        C.same("7: THE FRACTION stays", a.part(1), 60);
        C.same("7: read again", a.read(), 7);
        C.same("7: IMAGES stay", a.from(0), 1);
        C.same("7: M of the image", a.count(1), 4);
        faults();
    }

    private static void faults() {
        fault("", 0);
        fault("   ", 3);
        fault("vers", 0);
        fault("verses 0 0;", 0);
        fault("word 0 1 2 3;", 0);
        fault(";", 0);
        fault(" 7", 1);
        fault("verse", 5);
        fault("verse  ", 7);
        fault("verse 0 0;;", 10);
        fault("verse 6 0;", 6);
        fault("verse 10 0;", 6);
        fault("verse -0 0;", 6);
        fault("verse x 0;", 6);
        fault("verse ;", 6);
        fault("verse 0;", 7);
        fault("verse 0 ", 8);
        fault("verse 0 10;", 8);
        fault("verse 0 000;", 8);
        fault("verse 0 1 2 3 4 5 6 7;", 20);
        fault("verse 0 1 2 3 4 5 6", 19);
        fault("verse 0 1 word", 10);
        fault("verse 0 1;verse 0 1;", 10);
        fault("verse 0 1;A", 10);
        fault("verse 0 1;word 6 1 2 3;", 15);
        fault("verse 0 1;word 0 1 2;", 20);
        fault("verse 0 1;word 0 1 2 3 4 5 6 7;", 29);
        fault("verse 0 1;word 0 1 2 3;word 1 1 2 3;", 35);
        fault("verse 0 1;word 0 1 2 3;word 1 1 2 3", 35);
        fault("verse 0 1;word 0 1 2 3;put 1 0;", 27);
        fault("verse 0 1;word 0 1 2 3;put 0 1;", 29);
        fault("verse 0 1;word 0 1 2 3;put 0 0 0;", 31);
        fault("verse 0 1;word 0 1 2 3;put 0;", 28);
        fault("verse 0 1;word 0 1 2 3;put 0 0", 30);
        fault("verse 0 1;word 0 1 2 3;word 0 1 2 4;put 0 0;put 0 1;", 48);
        fault("verse 0 1 1;word 0 1 2 3;put 0 0;put 1 0;", 39);
        fault("verse 0 1;take 0;", 15);
        fault("verse 0 1;take 1;", 15);
        fault("verse 0 1;word 0 1 2 3;put 0 0;take 0 0;", 38);
        fault("verse 0 1;word 0 1 2 3;put 0 0;take 0;take 0;", 43);
        fault("verse 0 1;{", 10);
        fault("verse 0 1;`", 10);
        fault("verse 0 1;\t", 10);
        String eight = "verse 0 1;";
        for (int w = 0; w < 8; w++) {
            eight += "word 0 0 0 " + w + ";";
        }
        fault(eight + "word", eight.length());
        AcrosticLines a = new AcrosticLines();
        type(a, eight);
        C.same("7: eight words", a.read(), 9);
        type(a, "verse0 1;");
        C.same("7: no blank between", a.read(), 1);
        type(a, "verse00;");
        C.same("7: two figures are one number", a.read(), -17);
    }

    private static void fault(String text, int place) {
        AcrosticLines a = four();
        a.puts(0, 0);
        type(a, text);
        long digest = a.digest();
        C.same("7: read of '" + text + "'", a.read(), -10 - place);
        C.same("7: all stays", a.digest(), digest);
        C.same("7: a FAULT is not told by STATUS", a.status(0) + a.status(1) + a.status(2), 0);
        C.same("7: what may be undone stays", a.undo(), 0);
    }

    private static void promise8() {
        AcrosticLines a = four();
        C.same("8: right", a.puts(0, 0), 1);
        C.same("8: not right", a.puts(2, 1), 0);
        C.same("8: it stands there", a.about(2, 0), 1);
        int[][] no = {{0, 2}, {1, 0}, {0, 0}};
        for (int[] b : no) {
            refused(a, "8: no", -3, a.digest(), a.status(1), a.puts(b[0], b[1]), -3);
        }
        int[][] bad = {{-1, 2}, {4, 2}, {1, -1}, {1, 5}, {0, 5}, {LEAST, LEAST}, {GREATEST, GREATEST}};
        for (int[] b : bad) {
            refused(a, "8: bad", -2, a.digest(), a.status(0), a.puts(b[0], b[1]), -2);
        }
    }

    private static void promise9() {
        AcrosticLines a = four();
        a.puts(3, 2);
        C.same("9: takes", a.takes(3), 2);
        C.same("9: it is empty", a.about(3, 0), -1);
        refused(a, "9: no", -3, a.digest(), a.status(1), a.takes(3), -3);
        for (int j : new int[] {-1, 4, LEAST, GREATEST}) {
            refused(a, "9: bad", -2, a.digest(), a.status(0), a.takes(j), -2);
        }
    }

    private static void promise10() {
        AcrosticLines a = four();
        a.puts(0, 1);
        a.puts(1, 0);
        a.puts(2, 2);
        C.same("10: swaps", a.swaps(0, 1), 3);
        C.same("10: with an empty line", a.swaps(3, 2), 2);
        C.same("10: line 2", a.about(2, 0), -1);
        C.same("10: line 3", a.about(3, 0), 2);
        a.takes(3);
        refused(a, "10: no", -3, a.digest(), a.status(1), a.swaps(2, 3), -3);
        int[][] bad = {{1, 1}, {2, 2}, {-1, 0}, {0, -1}, {0, 4}, {4, 0}, {LEAST, 0}, {0, GREATEST}};
        for (int[] b : bad) {
            refused(a, "10: bad", -2, a.digest(), a.status(0), a.swaps(b[0], b[1]), -2);
        }
    }

    private static void promise11() {
        AcrosticLines a = four();
        refused(a, "11: none", -3, a.digest(), a.status(1), a.undo(), -3);
        a.puts(0, 0);
        a.puts(1, 1);
        a.swaps(1, 2);
        a.takes(0);
        C.same("11: taken is undone", a.undo(), 1);
        C.same("11: changed about is undone", a.undo(), 2);
        C.same("11: put is undone", a.undo(), 1);
        C.same("11: put is undone", a.undo(), 0);
        C.same("11: none is left", a.undo(), -3);
        a.puts(3, 4);
        for (int i = 0; i < 8; i++) {
            a.swaps(0, 3);
        }
        C.same("11: eight at most", a.count(9), 8);
        for (int i = 0; i < 8; i++) {
            C.same("11: count(9)", a.count(9), 8 - i);
            a.undo();
        }
        C.same("11: ahead of the eighth", a.about(3, 0), 4);
        C.same("11: no ninth", a.undo(), -3);
        a.takes(3);
        a.verse(0, 3, 0);
        C.same("11: none behind a verse", a.undo(), -3);
        undoOfEleven();
    }

    /** Each of eleven lines changed leaves other words, and each of the last eight is undone. */
    private static void undoOfEleven() {
        AcrosticLines a = new AcrosticLines();
        a.verse(1, 6, 123456);
        for (int w = 0; w < 8; w++) {
            a.word(0, 3, w);
        }
        long[] stood = new long[12];
        for (int i = 0; i < 6; i++) {
            stood[i] = standing(a);
            a.puts(i, 5 - i);
        }
        stood[6] = standing(a);
        a.swaps(0, 5);
        stood[7] = standing(a);
        a.takes(2);
        stood[8] = standing(a);
        a.puts(2, 7);
        stood[9] = standing(a);
        a.takes(4);
        stood[10] = standing(a);
        a.swaps(4, 1);
        for (int i = 10; i >= 3; i--) {
            long right = a.undo();
            C.same("11: of eleven, undone to " + i, standing(a), stood[i]);
            C.same("11: how many are right then", right, a.count(5));
        }
        C.same("11: of eleven, eight", a.undo(), -3);
    }

    private static long standing(AcrosticLines a) {
        long all = 0;
        for (int j = 0; j < 6; j++) {
            all = 10 * all + 1 + a.about(j, 0);
        }
        return all;
    }

    private static void promise12() {
        AcrosticLines a = four();
        a.puts(2, 4);
        int[] due = {2, 6, 200000, 2};
        for (int what = 0; what < 4; what++) {
            C.same("12: of(4, " + what + ")", a.of(4, what), due[what]);
        }
        C.same("12: on no line", a.of(0, 3), -1);
        int[][] bad = {{-1, 0}, {5, 0}, {0, -1}, {0, 4}, {LEAST, 0}, {0, GREATEST}};
        for (int[] b : bad) {
            refused(a, "12: bad", -2, a.digest(), a.status(0), a.of(b[0], b[1]), -2);
        }
    }

    private static void promise13() {
        AcrosticLines a = new AcrosticLines();
        a.verse(1, 6, 555555);
        for (int kind = 0; kind < 6; kind++) {
            a.word(kind, 5, 10000 * kind + 5);
        }
        int[][] costs = {{5, 5, 5, 5, 5, 5}, {8, 8, 8, 8, 8, 8}, {3, 3, 3, 3, 3, 3},
            {5, 6, 7, 8, 9, 10}, {0, 8, 8, 8, 8, 8}, {3, 3, 3, 5, 5, 5}};
        for (int w = 0; w < 6; w++) {
            for (int j = 0; j < 6; j++) {
                a.puts(j, w);
                C.same("13: cost of kind " + w + " on line " + j, a.about(j, 2), costs[w][j]);
                C.same("13: word", a.about(j, 0), w);
                C.same("13: letter", a.about(j, 1), 5);
                C.same("13: right", a.about(j, 3), 1);
                a.takes(j);
            }
            int[] empty = {-1, -1, 0, 0, 5};
            for (int what = 0; what < 5; what++) {
                C.same("13: empty, " + what, a.about(3, what), empty[what]);
            }
        }
        a.word(5, 6, 999999);
        a.puts(5, 6);
        C.same("13: half of six and 2", a.about(5, 2), 5);
        C.same("13: not right", a.about(5, 3), 0);
        int[][] bad = {{-1, 0}, {6, 0}, {0, -1}, {0, 5}, {GREATEST, 0}, {0, LEAST}};
        for (int[] b : bad) {
            refused(a, "13: bad", -2, a.digest(), a.status(0), a.about(b[0], b[1]), -2);
        }
    }

    private static void promise14() {
        AcrosticLines a = four();
        for (int w = 0; w < 5; w++) {
            for (int j = 0; j < 4; j++) {
                C.same("14: fits", a.fits(w, j), w == j || w == 4 && j == 1 ? 1 : 0);
            }
        }
        a.puts(1, 4);
        C.same("14: on another line, this one not empty", a.fits(1, 1), 1);
        C.same("14: there", a.fits(4, 1), 1);
        int[][] bad = {{-1, 0}, {5, 0}, {0, -1}, {0, 4}, {LEAST, 0}, {0, GREATEST}};
        for (int[] b : bad) {
            refused(a, "14: bad", -2, a.digest(), a.status(0), a.fits(b[0], b[1]), -2);
        }
    }

    private static void promise15() {
        AcrosticLines a = four();
        C.same("15: ways", a.ways(), 2);
        a.puts(0, 3);
        C.same("15: whatever stands there", a.ways(), 2);
        a.form(1);
        C.same("15: by the last letters", a.ways(), 0);
        AcrosticLines b = alike(8, 6);
        C.same("15: all of them", b.ways(), 20160);
        C.same("15: too few words", alike(5, 6).ways(), 0);
        C.same("15: just enough", alike(6, 6).ways(), 720);
        C.same("15: no words", new AcrosticLines().ways(), 0);
    }

    /** So many words that all fit each of so many lines. */
    private static AcrosticLines alike(int words, int lines) {
        AcrosticLines a = new AcrosticLines();
        a.verse(0, lines, 0);
        for (int w = 0; w < words; w++) {
            a.word(0, 3, w);
        }
        return a;
    }

    private static void promise16() {
        AcrosticLines a = new AcrosticLines();
        a.verse(0, 2, 11);
        a.word(4, 3, 111);
        a.word(4, 3, 112);
        a.word(4, 3, 311);
        C.same("16: first(0)", a.first(0), 0);
        C.same("16: first(1)", a.first(1), 1);
        a.verse(1, 2, 12);
        a.word(0, 3, 2);
        a.word(0, 3, 12);
        a.word(0, 3, 1);
        a.puts(0, 0);
        C.same("16: whatever stands there", a.first(0), 2);
        C.same("16: first(1)", a.first(1), 0);
        a.form(0);
        C.same("16: none", a.first(0), -1);
        for (int j : new int[] {-1, 2, LEAST, GREATEST}) {
            refused(a, "16: bad", -2, a.digest(), a.status(0), a.first(j), -2);
        }
        // the first word that fits line 0 is the only one for line 1
        a.verse(3, 2, 12);
        a.word(0, 3, 120);
        a.word(0, 3, 130);
        C.same("16: it keeps line 1 in view", a.first(0), 1);
        C.same("16: first(1)", a.first(1), 0);
    }

    private static void promise17() {
        AcrosticLines a = new AcrosticLines();
        a.verse(0, 2, 11);
        a.word(0, 6, 100000);
        a.word(1, 5, 10000);
        a.word(4, 5, 11000);
        a.word(2, 5, 12000);
        C.same("17: proud at the head, short behind", a.cheap(-1), 3);
        C.same("17: cheap(0)", a.cheap(0), 2);
        C.same("17: cheap(1)", a.cheap(1), 3);
        C.same("17: the first one is dearer", a.first(0), 0);
        a.puts(0, 0);
        C.same("17: whatever stands there", a.cheap(-1), 3);
        a.verse(0, 2, 11);
        a.word(0, 3, 199);
        a.word(0, 4, 1999);
        a.word(0, 3, 198);
        C.same("17: alike: the first one", a.cheap(0), 0);
        C.same("17: alike: the first one", a.cheap(1), 2);
        refused(a, "17: bad", -2, a.digest(), a.status(0), a.cheap(2), -10);
        refused(a, "17: bad", -2, a.digest(), a.status(0), a.cheap(-2), -10);
        a.form(1);
        C.same("17: no ways", a.cheap(-1), -6);
        C.same("17: no ways", a.cheap(1), -6);
        refused(a, "17: bad goes ahead of no ways", -2, a.digest(), a.status(0), a.cheap(LEAST), -10);
        C.same("17: no ways is not told by STATUS", a.status(0) + a.status(1) + a.status(2), 3);
    }

    private static void promise18() {
        AcrosticLines a = alike(5, 3);
        C.same("18: nothing stands", a.more(), 60);
        a.puts(1, 4);
        C.same("18: one stands", a.more(), 12);
        a.puts(0, 0);
        a.puts(2, 1);
        C.same("18: all stand", a.more(), 1);
        AcrosticLines b = four();
        b.puts(1, 4);
        C.same("18: one of two", b.more(), 1);
        C.same("18: ways stay", b.ways(), 2);
        b.puts(0, 3);
        C.same("18: one is not right", b.more(), 0);
        AcrosticLines c = four();
        c.puts(1, 0);
        C.same("18: a word needed elsewhere", c.more(), 0);
    }

    private static void promise19() {
        AcrosticLines a = four();
        a.word(0, 3, 999);
        C.same("19: needed", a.needs(0), 13);
        C.same("19: idle", a.needs(1), 32);
        a.form(1);
        C.same("19: no ways: none needed", a.needs(0), 0);
        C.same("19: no ways: all idle", a.needs(1), 63);
        C.same("19: no words", new AcrosticLines().needs(1), 0);
        for (int what : new int[] {-1, 2, LEAST, GREATEST}) {
            refused(a, "19: bad", -2, a.digest(), a.status(0), a.needs(what), -2);
        }
    }

    private static void promise20() {
        AcrosticLines a = four();
        C.same("20: all", a.held(), 4);
        a.puts(0, 3);
        C.same("20: whatever stands there", a.held(), 4);
        a.verse(0, 6, 111223);
        a.word(0, 3, 100);
        a.word(0, 3, 200);
        a.word(0, 3, 201);
        a.word(0, 3, 202);
        C.same("20: three words of four", a.held(), 3);
        // word 0 fits lines 0 and 1, word 1 line 0 alone: the first fit must give way
        a.verse(3, 2, 12);
        a.word(0, 3, 120);
        a.word(0, 3, 190);
        C.same("20: the first fit gives way", a.held(), 2);
        C.same("20: no words", new AcrosticLines().held(), 0);
    }

    private static void promise21() {
        AcrosticLines a = new AcrosticLines();
        a.verse(0, 2, 13);
        a.word(0, 3, 121);
        a.word(0, 3, 343);
        C.same("21: forms", a.forms(), 35);
        a.form(4);
        C.same("21: whatever the form is", a.forms(), 35);
        C.same("21: the form stays", a.count(2), 4);
        a.verse(5, 1, 7);
        a.word(0, 4, 1271);
        C.same("21: the middle", a.forms(), 4);
        C.same("21: no words", new AcrosticLines().forms(), 0);
    }

    private static void promise22() {
        AcrosticLines a = new AcrosticLines();
        a.verse(3, 3, 999);
        a.word(0, 3, 123);
        a.word(0, 3, 124);
        a.word(0, 3, 523);
        C.same("22: rows(1, 0)", a.rows(1, 0), 2);
        C.same("22: rows(1, 1)", a.rows(1, 1), 5);
        C.same("22: rows(2, 0)", a.rows(2, 0), 2);
        C.same("22: rows(2, 1)", a.rows(2, 1), 52);
        C.same("22: rows(3, 0)", a.rows(3, 0), 4);
        C.same("22: rows(3, 1)", a.rows(3, 1), 524);
        C.same("22: again", a.rows(1, 0), 2);
        int[][] bad = {{0, 0}, {4, 0}, {1, -1}, {1, 2}, {LEAST, 0}, {GREATEST, 0}};
        for (int[] b : bad) {
            refused(a, "22: bad", -2, a.digest(), a.status(0), a.rows(b[0], b[1]), -2);
        }
        a.verse(0, 2, 0);
        a.word(0, 3, 12);
        C.same("22: too few words", a.rows(2, 0), 0);
        C.same("22: too few words", a.rows(2, 1), -1);
        C.same("22: row of a nought", a.rows(1, 1), 0);
        refused(a, "22: beyond M", -2, a.digest(), a.status(0), a.rows(3, 0), -2);
        AcrosticLines b = new AcrosticLines();
        for (int w = 0; w < 8; w++) {
            b.word(0, 3, 100 * (w + 2));
        }
        C.same("22: all unlike", b.rows(3, 0), 336);
        C.same("22: the greatest", b.rows(3, 1), 987);
    }

    private static void promise23() {
        AcrosticLines a = new AcrosticLines();
        int[][] bad = {{2, 0, 0}, {7, 0, 0}, {3, -1, 0}, {3, 6, 0}, {3, 0, -1}, {3, 0, 6}, {LEAST, 0, 0}, {3, GREATEST, 0}};
        for (int[] b : bad) {
            refused(a, "23: bad", -2, a.digest(), a.status(0), a.note(b[0], b[1], b[2]), -2);
        }
        for (int i = 0; i < 6; i++) {
            C.same("23: note", a.note(3 + i % 4, i, i), i + 1);
        }
        refused(a, "23: full", -4, a.digest(), a.status(2), a.note(3, 0, 0), -4);
        refused(a, "23: bad goes ahead of full", -2, a.digest(), a.status(0), a.note(3, 0, 6), -2);
        C.same("23: count(7)", a.count(7), 6);
    }

    private static void promise24() {
        AcrosticLines a = new AcrosticLines();
        C.same("24: no such word", a.mark(0, 3, 0, 0), -2);
        a.word(0, 3, 0);
        a.word(0, 3, 1);
        int[][] bad = {{-1, 3, 0, 0}, {2, 3, 0, 0}, {0, 2, 0, 0}, {0, 7, 0, 0}, {0, 3, -1, 0}, {0, 3, 6, 0},
            {0, 3, 0, -1}, {0, 3, 0, 21}, {LEAST, 3, 0, 0}, {0, 3, 0, GREATEST}};
        for (int[] b : bad) {
            refused(a, "24: bad", -2, a.digest(), a.status(0), a.mark(b[0], b[1], b[2], b[3]), -2);
        }
        for (int i = 0; i < 6; i++) {
            C.same("24: mark", a.mark(i % 2, 3 + i % 4, i, 4 * i), i + 1);
        }
        refused(a, "24: full", -4, a.digest(), a.status(2), a.mark(0, 3, 0, 20), -4);
        refused(a, "24: bad goes ahead of full", -2, a.digest(), a.status(0), a.mark(2, 3, 0, 20), -2);
        C.same("24: count(8)", a.count(8), 6);
    }

    private static void promise25() {
        AcrosticLines a = four();
        a.note(3, 1, 1);
        a.note(3, 2, 2);
        a.mark(1, 3, 0, 6);
        C.same("25: marks", a.forget(1), 1);
        C.same("25: notes stay", a.count(7), 2);
        C.same("25: notes", a.forget(0), 2);
        C.same("25: none", a.forget(0), 0);
        C.same("25: is()", a.is(), 63);
        a.mark(1, 3, 0, 6);
        a.forget(0);
        C.same("25: marks stay", a.count(8), 1);
        for (int what : new int[] {-1, 2, LEAST, GREATEST}) {
            refused(a, "25: bad", -2, a.digest(), a.status(0), a.forget(what), -2);
        }
    }

    private static void promise26() {
        AcrosticLines a = new AcrosticLines();
        C.same("26: no notes", a.is(), 63);
        a.note(5, 3, 4);
        C.same("26: last or turn", a.is(), 34);
        a.note(5, 2, 0);
        C.same("26: turn", a.is(), 32);
        a.note(5, 2, 4);
        C.same("26: no kind", a.is(), 0);
        int[][] due = {{4, 4, 0, 41}, {4, 5, 1, 8}, {4, 5, 2, 20}, {4, 5, 3, 34}, {3, 5, 5, 0}, {6, 5, 5, 42}};
        for (int[] d : due) {
            a.forget(0);
            a.note(d[0], d[1], d[2]);
            C.same("26: is() by " + d[0] + " " + d[1] + " " + d[2], a.is(), d[3]);
        }
        C.same("26: the form stays", a.count(2), 0);
    }

    private static void promise27() {
        AcrosticLines a = new AcrosticLines();
        C.same("27: all kinds", a.look(), 41);
        a.note(3, 0, 0);
        C.same("27: first, step, turn", a.look(), 31);
        a.note(3, 1, 1);
        C.same("27: one kind: the least", a.look(), 30);
        a.note(3, 1, 2);
        C.same("27: no kind", a.look(), -1);
        a.forget(0);
        a.note(3, 1, 2);
        C.same("27: last, turn", a.look(), 30);
        a.forget(0);
        a.note(6, 5, 5);
        C.same("27: last, step, turn", a.look(), 34);
    }

    private static void promise28() {
        AcrosticLines a = four();
        C.same("28: no marks", a.kinds(0), 63);
        a.mark(0, 5, 3, 5);
        C.same("28: plain, tail", a.kinds(0), 33);
        C.same("28: marks of another word", a.kinds(1), 63);
        a.mark(0, 6, 1, 3);
        C.same("28: tail", a.kinds(0), 32);
        a.mark(0, 6, 1, 4);
        C.same("28: no kind", a.kinds(0), 0);
        int[][] due = {{5, 0, 3, 36}, {5, 0, 0, 16}, {5, 1, 8, 18}, {5, 3, 8, 26}, {6, 5, 11, 8}, {6, 2, 6, 1}, {5, 2, 1, 0}};
        for (int[] d : due) {
            a.forget(1);
            a.mark(4, d[0], d[1], d[2]);
            C.same("28: kinds by " + d[0] + " " + d[1] + " " + d[2], a.kinds(4), d[3]);
        }
        C.same("28: the word's kind stays", a.of(4, 0), 2);
        for (int w : new int[] {-1, 5, LEAST, GREATEST}) {
            refused(a, "28: bad", -2, a.digest(), a.status(0), a.kinds(w), -2);
        }
    }

    private static void promise29() {
        AcrosticLines a = four();
        C.same("29: all kinds", a.ask(0), 30);
        a.mark(0, 5, 1, 8);
        C.same("29: rare, proud", a.ask(0), 30);
        a.mark(1, 5, 0, 3);
        C.same("29: short, tail", a.ask(1), 33);
        a.mark(2, 4, 0, 4);
        C.same("29: plain, weak", a.ask(2), 31);
        a.mark(3, 5, 0, 0);
        C.same("29: one kind: the least", a.ask(3), 30);
        a.mark(3, 5, 0, 1);
        C.same("29: no kind", a.ask(3), -1);
        for (int w : new int[] {-1, 5, LEAST, GREATEST}) {
            refused(a, "29: bad", -2, a.digest(), a.status(0), a.ask(w), -2);
        }
    }

    private static void promise30() {
        AcrosticLines a = new AcrosticLines();
        a.verse(0, 2, 19);
        a.word(0, 3, 100);
        C.same("30: one word", a.poets(-1), 1);
        a.word(0, 3, 101);
        a.word(0, 3, 200);
        // 0 fits and gets 6; who names 1 gets 0 beside 0, and so does who names 2
        pairs(a, 1, 2, 10, 20);
        a.puts(0, 0);
        // on line 1 none fits: all get 0 but the same
        pairs(a, 12, 21);
        a.puts(1, 1);
        C.same("30: no line is empty", a.poets(-1), 0);
        C.same("30: no line is empty", a.poets(0), -5);
        refused(a, "30: bad", -2, a.digest(), a.status(0), a.poets(-2), -10);
        refused(a, "30: bad", -2, a.digest(), a.status(0), a.poets(LEAST), -10);
        a.verse(0, 1, 1);
        a.word(1, 6, 100000);
        a.word(1, 6, 110000);
        // alike: the lesser number gets 9 less 9, as one that gets nothing
        pairs(a, 1, 10);
        a.word(0, 3, 120);
        pairs(a, 2, 12, 20, 21);
        // costs are on the line in question: word 0 gets 9 less 11 on line 5, less than for the same
        a.verse(0, 6, 123451);
        a.word(3, 6, 100000);
        a.word(0, 3, 222);
        a.word(0, 3, 223);
        for (int j = 0; j < 3; j++) {
            a.word(0, 3, 300 + j);
        }
        a.word(0, 3, 400);
        for (int j = 0; j < 5; j++) {
            a.puts(j, j + 2);
        }
        pairs(a, 11);
    }

    private static void pairs(AcrosticLines a, int... due) {
        C.same("30: how many rest", a.poets(-1), due.length);
        for (int k = 0; k < due.length; k++) {
            C.same("30: pair " + k, a.poets(k), due[k]);
        }
        int told = a.status(0) + a.status(1) + a.status(2);
        C.same("30: not so many", a.poets(due.length), -5);
        C.same("30: not so many", a.poets(GREATEST), -5);
        C.same("30: that is not told by STATUS", a.status(0) + a.status(1) + a.status(2), told);
    }

    private static void promises31And33() {
        AcrosticLines a = four();
        C.same("31: luck", a.luck(), 1);
        C.same("33: above", a.part(0), 1);
        C.same("33: below", a.part(1), 60);
        a.form(1);
        C.same("33: it stays", a.part(1), 60);
        a.luck();
        C.same("31: no ways", a.part(0), 0);
        C.same("31: no ways", a.part(1), 1);
        AcrosticLines b = alike(8, 6);
        b.luck();
        C.same("31: sure", b.part(0), 1);
        C.same("31: sure", b.part(1), 1);
        b.verse(0, 6, 0);
        b.luck();
        C.same("31: too few words", b.part(0), 0);
        C.same("31: too few words", b.part(1), 1);
        b.verse(0, 2, 1);
        b.word(0, 3, 0);
        b.word(0, 3, 1);
        b.word(0, 3, 100);
        b.luck();
        C.same("31: two of six", b.part(0), 1);
        C.same("31: two of six", b.part(1), 3);
        for (int what : new int[] {-1, 2, LEAST, GREATEST}) {
            refused(b, "33: bad", -2, b.digest(), b.status(0), b.part(what), -2);
        }
    }

    private static void promise32() {
        AcrosticLines a = alike(8, 1);
        a.puts(0, 3);
        long digest = a.digest();
        // with one line and all words there it is spelled every other time
        C.same("32: every other time", a.evenings(0, 60), 30);
        C.same("32: every other time", a.evenings(999999, 59), 30);
        C.same("32: no evenings", a.evenings(5, 0), 0);
        C.same("32: nothing is changed", a.digest(), digest);
        AcrosticLines e = alike(8, 3);
        C.same("32: three lines", e.evenings(1, 60), 9);
        C.same("32: three lines", e.evenings(999999, 40), 2);
        e.verse(1, 2, 35);
        e.word(0, 3, 3);
        e.word(0, 3, 5);
        C.same("32: two words", e.evenings(7, 60), 2);
        // from seed 0, X is 12345 at the first evening: line 0, word 0
        AcrosticLines b = new AcrosticLines();
        b.verse(0, 1, 0);
        b.word(0, 3, 0);
        C.same("32: X is 12345: word 0 is put", b.evenings(0, 1), 1);
        C.same("32: then it is taken", b.evenings(0, 2), 1);
        AcrosticLines c = new AcrosticLines();
        c.verse(0, 1, 0);
        c.word(0, 3, 900);
        c.word(0, 3, 0);
        C.same("32: word 0 does not fit", c.evenings(0, 1), 0);
        int[][] bad = {{-1, 0}, {1000000, 0}, {0, -1}, {0, 61}, {LEAST, 0}, {0, GREATEST}};
        for (int[] d : bad) {
            refused(a, "32: bad", -2, a.digest(), a.status(0), a.evenings(d[0], d[1]), -2);
        }
    }

    private static void promises34And35() {
        AcrosticLines a = four();
        refused(a, "35: none was kept", -3, a.digest(), a.status(1), a.from(1), -3);
        a.puts(0, 0);
        a.note(3, 0, 0);
        a.mark(0, 3, 0, 3);
        long digest = a.digest();
        C.same("34: image", a.image(0), 1);
        C.same("35: the other one", a.from(1), -3);
        a.verse(2, 5, 55555);
        a.word(5, 6, 123456);
        a.note(6, 5, 4);
        a.mark(0, 6, 5, 4);
        a.puts(3, 0);
        a.takes(3);
        a.image(1);
        long other = a.digest();
        C.same("35: from", a.from(0), 1);
        C.same("35: all is as it was", a.digest(), digest);
        C.same("35: it may be undone", a.undo(), 0);
        C.same("35: from", a.from(1), 1);
        C.same("35: the other one", a.digest(), other);
        C.same("35: from again, as it was kept", a.from(0), 1);
        C.same("35: undone behind it does not count", a.digest(), digest);
        a.takes(0);
        a.image(0);
        a.from(0);
        C.same("34: kept anew", a.about(0, 0), -1);
        C.same("34: what may be undone", a.count(9), 2);
        type(a, "abc");
        a.luck();
        int below = (int) a.part(1);
        a.from(1);
        C.same("35: THE TEXT stays", a.count(10), 3);
        C.same("35: THE FRACTION stays", a.part(1), below);
        for (int i : new int[] {-1, 2, LEAST, GREATEST}) {
            refused(a, "34: bad", -2, a.digest(), a.status(0), a.image(i), -2);
            refused(a, "35: bad", -2, a.digest(), a.status(0), a.from(i), -2);
        }
    }

    private static void promise36() {
        AcrosticLines a = new AcrosticLines();
        a.form(9);
        a.undo();
        a.undo();
        for (int i = 0; i < 9; i++) {
            a.note(3, 0, 0);
        }
        C.same("36: BAD", a.status(0), 1);
        C.same("36: NO", a.status(1), 2);
        C.same("36: FULL", a.status(2), 3);
        C.same("36: another what", a.status(3), -1);
        C.same("36: another what", a.status(-1), -1);
        C.same("36: it counts as BAD", a.status(0), 3);
        a.verse(0, 1, 1);
        C.same("36: it stays behind a verse", a.status(0), 3);
        C.same("36: NO stays", a.status(1), 2);
    }

    private static void promise37() {
        AcrosticLines a = four();
        a.form(2);
        a.puts(0, 1);
        a.puts(2, 2);
        a.note(3, 0, 0);
        a.mark(1, 3, 0, 0);
        a.mark(1, 3, 0, 1);
        type(a, "verse");
        a.form(0);
        a.puts(3, 3);
        long[] due = {5, 4, 0, 1234, 3, 2, 16, 1, 2, 1, 5};
        for (int what = 0; what <= 10; what++) {
            C.same("37: count(" + what + ")", a.count(what), due[what]);
        }
        for (int what : new int[] {-1, 11, LEAST, GREATEST}) {
            refused(a, "37: bad", -2, a.digest(), a.status(0), a.count(what), -2);
        }
    }

    private static void promise38() {
        C.same("38: a new object", new AcrosticLines().digest(), folded(0, 3, 0, 0, 0, 0, 0, 0, 0, 0, 0, -1, -1, -1, 0, 1));
        AcrosticLines a = new AcrosticLines();
        a.verse(1, 2, 34);
        a.word(3, 4, 123);
        a.word(0, 3, 984);
        a.luck();
        a.puts(1, 1);
        a.note(6, 5, 4);
        a.mark(1, 5, 2, 20);
        a.type(59);
        long due = folded(2, 2, 1, 34, 1, 1, 3, 1, 1, 1, 1, 3, 4, 123, 0, 3, 984, -1, 1, 6, 5, 4, 1, 5, 2, 20, 1, 2);
        C.same("38: digest", a.digest(), due);
        AcrosticLines b = four();
        b.luck();
        due = folded(5, 4, 0, 1234, 0, 0, 0, 0, 0, 0, 0, 0, 3, 100, 1, 3, 200, 2, 5, 30000, 3, 4, 4000, 2, 6, 200000,
            -1, -1, -1, -1, 1, 60);
        C.same("38: digest behind luck", b.digest(), due);
    }

    private static long folded(long... all) {
        long h = 1861;
        for (long v : all) {
            h = 31 * h + v;
        }
        return h;
    }
}
