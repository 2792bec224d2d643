import java.util.ArrayList;
import java.util.HashMap;
import java.util.HashSet;
import java.util.List;
import java.util.Map;
import java.util.Set;
import java.util.TreeSet;
import java.util.function.Consumer;
import java.util.regex.Matcher;
import java.util.regex.Pattern;

/**
 * The document told once more, in another way: every row of words is gone through one by one, and
 * figures are kept as texts. Slow, and held against the class by RandomTests.
 */
public final class Model {
    private static final class Word {
        final int kind;
        final String letters;

        Word(int kind, String letters) {
            this.kind = kind;
            this.letters = letters;
        }
    }

    private static final class State {
        int form;
        String target = "000";
        List<Word> words = new ArrayList<>();
        Map<Integer, Integer> lines = new HashMap<>();
        List<int[]> notes = new ArrayList<>();
        List<int[]> marks = new ArrayList<>();
        List<Map<Integer, Integer>> undos = new ArrayList<>();

        State copy() {
            State s = new State();
            s.form = form;
            s.target = target;
            s.words.addAll(words);
            s.lines.putAll(lines);
            s.notes.addAll(notes);
            s.marks.addAll(marks);
            s.undos.addAll(undos);
            return s;
        }

        int m() {
            return target.length();
        }
    }

    private static final class Fault extends RuntimeException {
        private static final long serialVersionUID = 1L;
        final int place;

        Fault(int place) {
            this.place = place;
        }
    }

    private State s = new State();
    private String text = "";
    private final State[] images = new State[2];
    private final int[] refusals = new int[3];
    private int above = 0;
    private int below = 1;

    // ---- a verse

    public int verse(int form, int m, int target) {
        if (out(form, 0, 5) || out(m, 1, 6) || out(target, 0, nines(m))) {
            return refuse(-2);
        }
        int were = s.words.size();
        s = new State();
        s.form = form;
        s.target = figures(target, m);
        return were;
    }

    public int form(int kind) {
        if (out(kind, 0, 5)) {
            return refuse(-2);
        }
        int was = s.form;
        s.form = kind;
        s.undos.clear();
        return was;
    }

    public int word(int kind, int n, int code) {
        if (out(kind, 0, 5) || out(n, 3, 6) || out(code, 0, nines(n))) {
            return refuse(-2);
        }
        String letters = figures(code, n);
        for (Word w : s.words) {
            if (w.letters.equals(letters)) {
                return refuse(-3);
            }
        }
        if (s.words.size() == 8) {
            return refuse(-4);
        }
        s.words.add(new Word(kind, letters));
        s.undos.clear();
        return s.words.size() - 1;
    }

    public int type(int c) {
        if (out(c, 0, 127)) {
            return refuse(-2);
        }
        if (text.length() == 150) {
            return refuse(-4);
        }
        text += (char) c;
        return text.length();
    }

    public int clear() {
        int had = text.length();
        text = "";
        return had;
    }

    public int read() {
        try {
            State told = new State();
            int items = readAll(told);
            s = told;
            return items;
        } catch (Fault fault) {
            return -10 - fault.place;
        }
    }

    private int readAll(State told) {
        List<String> tokens = new ArrayList<>();
        List<Integer> places = new ArrayList<>();
        Matcher matcher = Pattern.compile("(?s)[a-z]+|[0-9]+|[^ ]").matcher(text);
        while (matcher.find()) {
            tokens.add(matcher.group());
            places.add(matcher.start());
        }
        tokens.add("");
        places.add(text.length());
        int items = 0;
        int i = 0;
        while (items == 0 || !tokens.get(i).isEmpty()) {
            String name = tokens.get(i);
            boolean isVerse = name.equals("verse");
            boolean isWord = name.equals("word");
            boolean isPut = name.equals("put");
            boolean isTake = name.equals("take");
            boolean known = items == 0 ? isVerse : isWord || isPut || isTake;
            if (!known || isWord && told.words.size() == 8) {
                throw new Fault(places.get(i));
            }
            int least = isVerse ? 2 : isWord ? 4 : isPut ? 2 : 1;
            int most = isVerse || isWord ? 7 : least;
            List<Integer> numbers = new ArrayList<>();
            i++;
            for (;; i++) {
                String token = tokens.get(i);
                boolean isNumber = token.matches("[0-9]{1,2}");
                if (isNumber && numbers.size() < most
                        && canStand(told, name, numbers, Integer.parseInt(token))) {
                    numbers.add(Integer.parseInt(token));
                } else if (token.equals(";") && numbers.size() >= least) {
                    break;
                } else {
                    throw new Fault(places.get(i));
                }
            }
            if (!carryOut(told, name, numbers)) {
                throw new Fault(places.get(i));
            }
            i++;
            items++;
        }
        return items;
    }

    private static boolean canStand(State told, String name, List<Integer> ahead, int number) {
        if (name.equals("verse") || name.equals("word")) {
            return number <= (ahead.isEmpty() ? 5 : 9);
        }
        if (!ahead.isEmpty()) {
            return number < told.words.size() && !told.lines.containsValue(number);
        }
        return number < told.m() && told.lines.containsKey(number) == name.equals("take");
    }

    private static boolean carryOut(State told, String name, List<Integer> numbers) {
        StringBuilder letters = new StringBuilder();
        for (int k = 1; k < numbers.size(); k++) {
            letters.append(numbers.get(k));
        }
        switch (name) {
            case "verse":
                told.form = numbers.get(0);
                told.target = letters.toString();
                return true;
            case "word":
                for (Word w : told.words) {
                    if (w.letters.contentEquals(letters)) {
                        return false;
                    }
                }
                told.words.add(new Word(numbers.get(0), letters.toString()));
                return true;
            case "put":
                told.lines.put(numbers.get(0), numbers.get(1));
                return true;
            default:
                told.lines.remove(numbers.get(0));
                return true;
        }
    }

    // ---- lines

    public int puts(int j, int w) {
        if (noLine(j) || noWord(w)) {
            return refuse(-2);
        }
        if (s.lines.containsKey(j) || s.lines.containsValue(w)) {
            return refuse(-3);
        }
        keep();
        s.lines.put(j, w);
        return fitsBy(s.form, w, j) ? 1 : 0;
    }

    public int takes(int j) {
        if (noLine(j)) {
            return refuse(-2);
        }
        if (!s.lines.containsKey(j)) {
            return refuse(-3);
        }
        keep();
        return s.lines.remove(j);
    }

    public int swaps(int j, int k) {
        if (noLine(j) || noLine(k) || j == k) {
            return refuse(-2);
        }
        if (!s.lines.containsKey(j) && !s.lines.containsKey(k)) {
            return refuse(-3);
        }
        keep();
        Integer onJ = s.lines.remove(j);
        Integer onK = s.lines.remove(k);
        if (onJ != null) {
            s.lines.put(k, onJ);
        }
        if (onK != null) {
            s.lines.put(j, onK);
        }
        return right(s.lines);
    }

    public int undo() {
        if (s.undos.isEmpty()) {
            return refuse(-3);
        }
        s.lines = new HashMap<>(s.undos.remove(s.undos.size() - 1));
        return right(s.lines);
    }

    private void keep() {
        s.undos.add(new HashMap<>(s.lines));
        if (s.undos.size() > 8) {
            s.undos.remove(0);
        }
    }

    public int of(int w, int what) {
        if (noWord(w) || out(what, 0, 3)) {
            return refuse(-2);
        }
        Word word = s.words.get(w);
        return new int[] {word.kind, word.letters.length(), Integer.parseInt(word.letters), lineOf(w)}[what];
    }

    public int about(int j, int what) {
        if (noLine(j) || out(what, 0, 4)) {
            return refuse(-2);
        }
        Integer w = s.lines.get(j);
        if (what == 4) {
            return s.target.charAt(j) - '0';
        }
        if (w == null) {
            return what < 2 ? -1 : 0;
        }
        return new int[] {w, letter(s.form, w, j) - '0', cost(w, j), fitsBy(s.form, w, j) ? 1 : 0}[what];
    }

    // ---- how it is spelled

    public int fits(int w, int j) {
        if (noWord(w) || noLine(j)) {
            return refuse(-2);
        }
        return fitsBy(s.form, w, j) ? 1 : 0;
    }

    /** Every row of so many unlike words, in their order. */
    private void eachRow(int length, List<Integer> begun, Consumer<List<Integer>> taker) {
        if (begun.size() == length) {
            taker.accept(begun);
            return;
        }
        for (int w = 0; w < s.words.size(); w++) {
            if (!begun.contains(w)) {
                begun.add(w);
                eachRow(length, begun, taker);
                begun.remove(begun.size() - 1);
            }
        }
    }

    private List<List<Integer>> waysBy(int form) {
        List<List<Integer>> found = new ArrayList<>();
        eachRow(s.m(), new ArrayList<>(), row -> {
            for (int j = 0; j < row.size(); j++) {
                if (!fitsBy(form, row.get(j), j)) {
                    return;
                }
            }
            found.add(new ArrayList<>(row));
        });
        return found;
    }

    public int ways() {
        return waysBy(s.form).size();
    }

    public int first(int j) {
        if (noLine(j)) {
            return refuse(-2);
        }
        List<List<Integer>> all = waysBy(s.form);
        return all.isEmpty() ? -1 : all.get(0).get(j);
    }

    public int cheap(int j) {
        if (j != -1 && noLine(j)) {
            refuse(-2);
            return -10;
        }
        List<Integer> best = null;
        int least = -6;
        for (List<Integer> way : waysBy(s.form)) {
            int together = 0;
            for (int k = 0; k < way.size(); k++) {
                together += cost(way.get(k), k);
            }
            if (best == null || together < least) {
                best = way;
                least = together;
            }
        }
        return best == null || j == -1 ? least : best.get(j);
    }

    public int more() {
        int staying = 0;
        for (List<Integer> way : waysBy(s.form)) {
            boolean stays = true;
            for (int j : s.lines.keySet()) {
                stays &= way.get(j).equals(s.lines.get(j));
            }
            staying += stays ? 1 : 0;
        }
        return staying;
    }

    public int needs(int what) {
        if (out(what, 0, 1)) {
            return refuse(-2);
        }
        List<List<Integer>> all = waysBy(s.form);
        int bits = 0;
        for (int w = 0; w < s.words.size(); w++) {
            int with = 0;
            for (List<Integer> way : all) {
                with += way.contains(w) ? 1 : 0;
            }
            boolean told = what == 1 ? with == 0 : !all.isEmpty() && with == all.size();
            bits += told ? 1 << w : 0;
        }
        return bits;
    }

    public int held() {
        return held(0, new HashSet<>());
    }

    private int held(int j, Set<Integer> used) {
        if (j == s.m()) {
            return used.size();
        }
        int best = held(j + 1, used);
        for (int w = 0; w < s.words.size(); w++) {
            if (fitsBy(s.form, w, j) && used.add(w)) {
                best = Math.max(best, held(j + 1, used));
                used.remove(w);
            }
        }
        return best;
    }

    public int forms() {
        int bits = 0;
        for (int kind = 0; kind < 6; kind++) {
            bits += waysBy(kind).isEmpty() ? 0 : 1 << kind;
        }
        return bits;
    }

    public int rows(int n, int what) {
        if (out(n, 1, Math.min(3, s.m())) || out(what, 0, 1)) {
            return refuse(-2);
        }
        TreeSet<String> seen = new TreeSet<>();
        eachRow(n, new ArrayList<>(), row -> {
            StringBuilder spelled = new StringBuilder();
            for (int j = 0; j < n; j++) {
                spelled.append(letter(s.form, row.get(j), j));
            }
            seen.add(spelled.toString());
        });
        if (what == 0) {
            return seen.size();
        }
        return seen.isEmpty() ? -1 : Integer.parseInt(seen.last());
    }

    // ---- what it is

    public int note(int n, int j, int x) {
        if (out(n, 3, 6) || out(j, 0, 5) || out(x, 0, 5)) {
            return refuse(-2);
        }
        if (s.notes.size() == 6) {
            return refuse(-4);
        }
        s.notes.add(new int[] {n, j, x});
        return s.notes.size();
    }

    public int mark(int w, int n, int j, int x) {
        if (noWord(w) || out(n, 3, 6) || out(j, 0, 5) || out(x, 0, 20)) {
            return refuse(-2);
        }
        if (s.marks.size() == 6) {
            return refuse(-4);
        }
        s.marks.add(new int[] {w, n, j, x});
        return s.marks.size();
    }

    public int forget(int what) {
        if (out(what, 0, 1)) {
            return refuse(-2);
        }
        List<int[]> seen = what == 0 ? s.notes : s.marks;
        int were = seen.size();
        seen.clear();
        return were;
    }

    private List<Integer> formsSeen() {
        List<Integer> left = new ArrayList<>(List.of(0, 1, 2, 3, 4, 5));
        for (int[] seen : s.notes) {
            left.removeIf(kind -> place(kind, seen[0], seen[1]) != seen[2]);
        }
        return left;
    }

    private List<Integer> kindsSeen(int w) {
        List<Integer> left = new ArrayList<>(List.of(0, 1, 2, 3, 4, 5));
        for (int[] seen : s.marks) {
            if (seen[0] == w) {
                left.removeIf(kind -> cost(kind, seen[1], seen[2]) != seen[3]);
            }
        }
        return left;
    }

    private static int bits(List<Integer> numbers) {
        int bits = 0;
        for (int number : numbers) {
            bits += 1 << number;
        }
        return bits;
    }

    private static int best(List<Integer> left, boolean byCost) {
        int best = -1;
        int fewest = 99;
        for (int question = 30; question < 70; question++) {
            if (question % 10 > 5 || left.isEmpty()) {
                continue;
            }
            Map<Integer, Integer> groups = new HashMap<>();
            int most = 0;
            for (int kind : left) {
                int n = question / 10;
                int j = question % 10;
                most = Math.max(most, groups.merge(byCost ? cost(kind, n, j) : place(kind, n, j), 1, Integer::sum));
            }
            if (most < fewest) {
                fewest = most;
                best = question;
            }
        }
        return best;
    }

    public int is() {
        return bits(formsSeen());
    }

    public int look() {
        return best(formsSeen(), false);
    }

    public int kinds(int w) {
        return noWord(w) ? refuse(-2) : bits(kindsSeen(w));
    }

    public int ask(int w) {
        return noWord(w) ? refuse(-2) : best(kindsSeen(w), true);
    }

    public int poets(int k) {
        if (k < -1) {
            refuse(-2);
            return -10;
        }
        List<Integer> resting = new ArrayList<>();
        int line = 0;
        while (s.lines.containsKey(line)) {
            line++;
        }
        List<Integer> free = new ArrayList<>();
        for (int w = 0; w < s.words.size() && line < s.m(); w++) {
            if (!s.lines.containsValue(w)) {
                free.add(w);
            }
        }
        for (int i : free) {
            for (int j : free) {
                boolean rests = true;
                for (int other : free) {
                    rests &= gain(line, other, j) <= gain(line, i, j);
                    rests &= gain(line, other, i) <= gain(line, j, i);
                }
                if (rests) {
                    resting.add(10 * i + j);
                }
            }
        }
        return k == -1 ? resting.size() : k < resting.size() ? resting.get(k) : -5;
    }

    private int gain(int line, int own, int other) {
        if (own == other) {
            return -1;
        }
        boolean wins = false;
        if (fitsBy(s.form, own, line)) {
            if (!fitsBy(s.form, other, line)) {
                wins = true;
            } else if (cost(other, line) == cost(own, line)) {
                wins = own < other;
            } else {
                wins = cost(other, line) > cost(own, line);
            }
        }
        return wins ? 9 - cost(own, line) : 0;
    }

    public int luck() {
        int[] all = new int[1];
        eachRow(s.m(), new ArrayList<>(), row -> all[0]++);
        above = ways();
        below = Math.max(1, all[0]);
        for (int d = below; d > 1; d--) {
            if (above % d == 0 && below % d == 0) {
                above /= d;
                below /= d;
            }
        }
        return 1;
    }

    public int evenings(int seed, int n) {
        if (out(seed, 0, 999999) || out(n, 0, 60)) {
            return refuse(-2);
        }
        long x = seed;
        int spelled = 0;
        Map<Integer, Integer> lines = new HashMap<>();
        for (int i = 0; i < n; i++) {
            x = (x * 1103515245L + 12345) & 0x7fffffffL;
            int j = (int) ((x >> 16) % s.m());
            int w = (int) ((x >> 20) % 8);
            if (lines.remove(j) == null && w < s.words.size() && !lines.containsValue(w)) {
                lines.put(j, w);
            }
            spelled += right(lines) == s.m() ? 1 : 0;
        }
        return spelled;
    }

    // ---- what there is

    public long part(int what) {
        return out(what, 0, 1) ? refuse(-2) : what == 0 ? above : below;
    }

    public int image(int i) {
        if (out(i, 0, 1)) {
            return refuse(-2);
        }
        images[i] = s.copy();
        return 1;
    }

    public int from(int i) {
        if (out(i, 0, 1)) {
            return refuse(-2);
        }
        if (images[i] == null) {
            return refuse(-3);
        }
        s = images[i].copy();
        return 1;
    }

    public int status(int what) {
        if (out(what, 0, 2)) {
            refuse(-2);
            return -1;
        }
        return refusals[what];
    }

    public int count(int what) {
        if (out(what, 0, 10)) {
            return refuse(-2);
        }
        int costs = 0;
        for (int j : s.lines.keySet()) {
            costs += cost(s.lines.get(j), j);
        }
        return new int[] {s.words.size(), s.m(), s.form, Integer.parseInt(s.target), s.lines.size(),
            right(s.lines), costs, s.notes.size(), s.marks.size(), s.undos.size(), text.length()}[what];
    }

    public long digest() {
        List<Long> all = new ArrayList<>();
        for (int what = 0; what < 11; what++) {
            all.add((long) count(what));
        }
        for (Word w : s.words) {
            all.add((long) w.kind);
            all.add((long) w.letters.length());
            all.add(Long.parseLong(w.letters));
        }
        for (int j = 0; j < s.m(); j++) {
            all.add((long) s.lines.getOrDefault(j, -1));
        }
        for (List<int[]> seen : List.of(s.notes, s.marks)) {
            for (int[] one : seen) {
                for (int v : one) {
                    all.add((long) v);
                }
            }
        }
        all.add((long) above);
        all.add((long) below);
        long h = 1861;
        for (long v : all) {
            h = h * 31 + v;
        }
        return h;
    }

    // ---- what the calls share

    private int refuse(int reason) {
        refusals[-2 - reason]++;
        return reason;
    }

    private static boolean out(int number, int least, int most) {
        return number < least || number > most;
    }

    private boolean noLine(int j) {
        return out(j, 0, s.m() - 1);
    }

    private boolean noWord(int w) {
        return out(w, 0, s.words.size() - 1);
    }

    private static int nines(int n) {
        return Integer.parseInt("9".repeat(n));
    }

    private static String figures(int code, int n) {
        return String.format("%0" + n + "d", code);
    }

    private int lineOf(int w) {
        for (int j : s.lines.keySet()) {
            if (s.lines.get(j) == w) {
                return j;
            }
        }
        return -1;
    }

    private int right(Map<Integer, Integer> lines) {
        int right = 0;
        for (int j : lines.keySet()) {
            right += fitsBy(s.form, lines.get(j), j) ? 1 : 0;
        }
        return right;
    }

    private boolean fitsBy(int form, int w, int j) {
        return letter(form, w, j) == s.target.charAt(j);
    }

    private char letter(int form, int w, int j) {
        String letters = s.words.get(w).letters;
        return letters.charAt(place(form, letters.length(), j));
    }

    private int cost(int w, int j) {
        return cost(s.words.get(w).kind, s.words.get(w).letters.length(), j);
    }

    private static int place(int kind, int n, int j) {
        int[] told = {0, n - 1, n / 2, j % n, n - 1 - j % n, j % 2 * (n - 1)};
        return told[kind];
    }

    private static int cost(int kind, int n, int j) {
        int half = n / 2 + n % 2;
        int[] told = {n, n + 3, half, n + j, j == 0 ? 0 : n + 3, half + (j > 2 ? 2 : 0)};
        return told[kind];
    }
}
