import java.util.ArrayList;
import java.util.List;
import java.util.function.Supplier;

/** Checks of what stands just inside a bound, just outside it, and of refused calls that may change nothing. */
final class Bounds {
    /** A call on an object. */
    interface Call {
        long on(AcrosticLines a);
    }

    /** A call on an object, one number of which is gone through. */
    interface Numbered {
        long on(AcrosticLines a, int number);
    }

    static final int NONE = -1, BAD = -2, NO = -3, FULL = -4;
    static final int LEAST = Integer.MIN_VALUE, GREATEST = Integer.MAX_VALUE;

    private final Checks checks;

    Bounds(Checks checks) {
        this.checks = checks;
    }

    /** M lines that are to spell noughts, and so many words that fit each of them by their first letter. */
    static AcrosticLines alike(int m, int words) {
        AcrosticLines a = new AcrosticLines();
        a.verse(0, m, 0);
        for (int w = 0; w < words; w++) {
            a.word(0, 3, w);
        }
        return a;
    }

    /**
     * Something of each: 4 lines, word 0 on line 0, 4 on line 2, words 1 to 3 on none, 5 changes that may
     * be undone, 2 notes, a mark, two images, a text that can be read, THE FRACTION 1 by 60, STATUS 1, 2, 3.
     */
    static AcrosticLines busy() {
        AcrosticLines a = new AcrosticLines();
        keepAnOlderVerse(a);
        a.verse(0, 4, 1234);
        a.word(0, 3, 100);
        a.word(1, 3, 200);
        a.word(2, 5, 30000);
        a.word(3, 4, 4000);
        a.word(4, 6, 200000);
        a.luck();
        a.mark(1, 6, 2, 9);
        a.puts(1, 4);
        a.image(1);
        a.swaps(1, 2);
        a.puts(0, 3);
        a.takes(0);
        a.puts(0, 0);
        type(a, "verse 2 1 2;word 1 0 1 2;put 1 0;");
        refuseSome(a);
        a.note(3, 0, 0);
        a.note(6, 3, 3);
        return a;
    }

    private static void keepAnOlderVerse(AcrosticLines a) {
        a.verse(3, 2, 12);
        a.word(0, 3, 123);
        a.word(1, 4, 2222);
        a.puts(1, 1);
        a.puts(0, 0);
        a.swaps(0, 1);
        a.note(4, 1, 1);
        a.mark(0, 3, 0, 3);
        a.image(0);
    }

    private static void refuseSome(AcrosticLines a) {
        a.form(6);
        a.takes(3);
        a.takes(3);
        for (int i = 0; i < 6 + 3; i++) {
            a.note(3, 1, 2);
        }
        a.forget(0);
    }

    /** Nothing may come to it any more: 8 words, 6 notes, 6 marks, 150 bytes, 8 changes to undo. */
    static AcrosticLines full() {
        AcrosticLines a = alike(6, 8);
        for (int j = 0; j < 6; j++) {
            a.puts(j, j);
            a.note(3 + j % 4, j, 0);
            a.mark(j, 3 + j % 4, j, 3 + j % 4);
        }
        a.takes(5);
        a.takes(4);
        a.takes(3);
        a.image(0);
        type(a, " ".repeat(139) + "verse 1 2 3");
        return a;
    }

    static void type(AcrosticLines a, String text) {
        a.clear();
        for (int i = 0; i < text.length(); i++) {
            a.type(text.charAt(i));
        }
    }

    void same(String what, long got, long due) {
        checks.same(what, got, due);
    }

    /** This call answers so, and STATUS counts nothing. */
    void taken(String what, Supplier<AcrosticLines> made, Call call, long due) {
        AcrosticLines a = made.get();
        List<Long> status = status(a);
        checks.same(what, call.on(a), due);
        checks.holds(what + ": counted by STATUS", status(a).equals(status));
    }

    /** This call answers so, is counted as refused for this reason, and changes nothing else. */
    void refused(String what, Supplier<AcrosticLines> made, Call call, long due, int reason) {
        AcrosticLines called = made.get();
        List<Long> status = status(called);
        checks.same(what, call.on(called), due);
        status.set(-2 - reason, status.get(-2 - reason) + 1);
        checks.same(what + ": all that STATUS tells", folded(status(called)), folded(status));
        checks.holds(what + ": changed something", probe(called).equals(probe(made.get())));
    }

    /** This call answers so, is counted nowhere, and changes nothing. */
    void asks(String what, Supplier<AcrosticLines> made, Call call, long due) {
        AcrosticLines called = made.get();
        List<Long> status = status(called);
        checks.same(what, call.on(called), due);
        checks.holds(what + ": counted by STATUS", status(called).equals(status));
        checks.holds(what + ": changed something", probe(called).equals(probe(made.get())));
    }

    /** BAD is what is less than the least, more than the most; what is at either bound is as told. */
    void bound(String what, Supplier<AcrosticLines> made, Numbered call, int least, int most) {
        bound(what, made, call, least, most, BAD);
    }

    void bound(String what, Supplier<AcrosticLines> made, Numbered call, int least, int most, long bad) {
        for (int inside : new int[] {least, most}) {
            AcrosticLines a = made.get();
            int told = a.status(0);
            checks.holds(what + ": " + inside + " is as told", call.on(a, inside) != bad);
            checks.same(what + ": " + inside + " is not counted as BAD", a.status(0), told);
        }
        if (least > LEAST) {
            refused(what + ": " + (least - 1), made, a -> call.on(a, least - 1), bad, BAD);
            refused(what + ": the least number of all", made, a -> call.on(a, LEAST), bad, BAD);
        }
        if (most < GREATEST) {
            refused(what + ": " + (most + 1), made, a -> call.on(a, most + 1), bad, BAD);
            refused(what + ": the greatest number of all", made, a -> call.on(a, GREATEST), bad, BAD);
        }
    }

    static List<Long> status(AcrosticLines a) {
        List<Long> all = new ArrayList<>();
        for (int what = 0; what < 3; what++) {
            all.add((long) a.status(what));
        }
        return all;
    }

    private static long folded(List<Long> all) {
        long folded = 0;
        for (long one : all) {
            folded = 1000 * folded + one;
        }
        return folded;
    }

    /** All that an object answers but STATUS; it is not as it was behind this. */
    static List<Long> probe(AcrosticLines a) {
        List<Long> all = new ArrayList<>();
        answers(a, all);
        undone(a, all);
        for (int i = 0; i < 2; i++) {
            all.add((long) a.from(i));
            all.add(a.digest());
            undone(a, all);
        }
        all.add((long) a.read());
        all.add((long) a.clear());
        all.add(a.digest());
        return all;
    }

    private static void answers(AcrosticLines a, List<Long> all) {
        all.add(a.digest());
        long[] told = {a.ways(), a.first(0), a.cheap(-1), a.more(), a.needs(0), a.needs(1), a.held(), a.forms(),
            a.rows(1, 0), a.rows(1, 1), a.is(), a.look(), a.kinds(0), a.ask(0), a.poets(-1), a.poets(0),
            a.evenings(7, 60), a.part(0), a.part(1)};
        for (long one : told) {
            all.add(one);
        }
    }

    private static void undone(AcrosticLines a, List<Long> all) {
        for (int i = 0; i < 9; i++) {
            all.add((long) a.undo());
            all.add(a.digest());
        }
    }
}
