import java.lang.reflect.Method;
import java.util.Arrays;
import java.util.HashMap;
import java.util.Map;
import java.util.Random;

/** Runs of calls by fixed seeds, on the class and on the model: every answer must be the same. */
public final class RandomTests {
    private static final String[] SETTING = {"word", "word", "word", "puts", "puts", "puts", "takes",
        "swaps", "undo", "form", "note", "mark", "mark", "image", "from", "forget", "verse", "read"};
    private static final String[] ASKING = {"of", "about", "fits", "ways", "first", "cheap", "more",
        "needs", "held", "forms", "rows", "is", "look", "kinds", "ask", "poets", "luck", "evenings",
        "part", "status", "count", "digest"};
    private static final String[] LINES = {"puts", "puts", "puts", "takes", "swaps", "swaps", "undo"};
    private static final Map<String, Integer> ARGUMENTS = new HashMap<>();

    private final Random random;
    private final AcrosticLines real = new AcrosticLines();
    private final Model model = new Model();
    private final Checks checks;
    private final String run;
    /** Few letters make many ways. */
    private final int letters;
    private int m = 3;

    private RandomTests(Checks checks, int seed) {
        this.checks = checks;
        this.run = "run " + seed;
        this.random = new Random(seed);
        this.letters = 1 + random.nextInt(4);
    }

    public static void main(String[] args) throws Exception {
        Checks checks = new Checks("RandomTests");
        for (Method method : Model.class.getDeclaredMethods()) {
            if (java.lang.reflect.Modifier.isPublic(method.getModifiers())) {
                ARGUMENTS.put(method.getName(), method.getParameterCount());
            }
        }
        int runs = args.length > 1 ? Integer.parseInt(args[1]) : 600;
        for (int seed = 0; seed < runs; seed++) {
            new RandomTests(checks, seed).play();
        }
        checks.end();
    }

    private void play() throws Exception {
        if (random.nextInt(4) != 0) {
            m = 1 + random.nextInt(6);
            call("verse", random.nextInt(6), m, code(m));
        }
        int words = random.nextInt(9);
        for (int i = 0; i < words; i++) {
            int n = 3 + random.nextInt(4);
            call("word", random.nextInt(6), n, code(n));
        }
        int calls = 60 + random.nextInt(140);
        boolean onlyLines = random.nextInt(3) == 0;
        for (int i = 0; i < calls; i++) {
            String[] among = random.nextInt(3) != 0 ? ASKING : onlyLines ? LINES : SETTING;
            one(among[random.nextInt(among.length)]);
            if (i % 10 == 0) {
                call("digest");
            }
        }
        for (int what = 0; what < 3; what++) {
            call("status", what);
        }
    }

    private void one(String name) throws Exception {
        if (name.equals("read")) {
            typeAndRead();
            return;
        }
        if (name.equals("verse") && random.nextInt(4) != 0) {
            return;
        }
        int[] numbers = new int[ARGUMENTS.get(name)];
        for (int i = 0; i < numbers.length; i++) {
            numbers[i] = random.nextInt(40) == 0 ? odd() : told(name, i, numbers);
        }
        long answer = call(name, numbers);
        if (name.equals("verse") && answer >= 0) {
            m = numbers[1];
        }
    }

    private int odd() {
        int[] odd = {-2, -1, 6, 7, 8, 10, 1000, 1000000, Integer.MIN_VALUE, Integer.MAX_VALUE};
        return odd[random.nextInt(odd.length)];
    }

    private int told(String name, int i, int[] ahead) {
        switch (name + i) {
            case "verse1": return 1 + random.nextInt(6);
            case "verse2": return code(Math.max(1, Math.min(6, ahead[1])));
            case "word1": case "note0": case "mark1": return 3 + random.nextInt(4);
            case "word2": return code(Math.max(3, Math.min(6, ahead[1])));
            case "verse0": case "form0": case "word0": case "note1": case "mark2": return random.nextInt(6);
            case "puts1": case "of0": case "fits0": case "kinds0": case "ask0": case "mark0":
                return random.nextInt(1 + Math.min(7, real.count(0)));
            case "puts0": case "takes0": case "swaps0": case "swaps1": case "about0": case "fits1":
            case "first0": return random.nextInt(m);
            case "cheap0": return random.nextInt(m + 1) - 1;
            case "rows0": return 1 + random.nextInt(3);
            case "note2": return place(ahead);
            case "mark3": return cost(ahead);
            case "poets0": return random.nextInt(20) - 1;
            case "evenings0": return random.nextInt(1000000);
            case "evenings1": return random.nextInt(61);
            case "of1": return random.nextInt(4);
            case "about1": return random.nextInt(5);
            case "status0": return random.nextInt(3);
            case "count0": return random.nextInt(11);
            default: return random.nextInt(2);
        }
    }

    /** Now and then as some form tells it, so that forms stay that agree with all notes. */
    private int place(int[] note) {
        int n = Math.max(1, note[0]);
        int j = Math.max(0, note[1]);
        int[] likely = {0, n - 1, n / 2, j % n, n - 1 - j % n, random.nextInt(6)};
        return likely[random.nextInt(likely.length)];
    }

    private int cost(int[] mark) {
        int n = mark[1];
        int j = mark[2];
        int[] likely = {n, n + 3, (n + 1) / 2, n + j, 0, (n + 1) / 2 + 2, random.nextInt(21)};
        return likely[random.nextInt(likely.length)];
    }

    private int code(int n) {
        int code = 0;
        for (int i = 0; i < n; i++) {
            code = 10 * code + (random.nextInt(12) == 0 ? random.nextInt(10) : random.nextInt(letters));
        }
        return code;
    }

    private void typeAndRead() throws Exception {
        if (random.nextInt(5) != 0) {
            call("clear");
        }
        String text = text();
        for (int i = 0; i < text.length(); i++) {
            call("type", text.charAt(i));
        }
        long items = call("read");
        if (items > 0) {
            m = real.count(1);
        }
    }

    private String text() {
        StringBuilder text = new StringBuilder();
        gap(text, 6);
        int lines = 1 + random.nextInt(6);
        item(text, "verse", random.nextInt(6), lines, letters + 2);
        int items = random.nextInt(11);
        int words = 0;
        for (int i = 0; i < items; i++) {
            gap(text, 6);
            int what = random.nextInt(20);
            if (what < 12 || words == 0) {
                item(text, "word", random.nextInt(6), 3 + random.nextInt(4), letters + 2);
                words++;
            } else if (what < 17) {
                item(text, "put", random.nextInt(lines), 1, words);
            } else if (what < 19) {
                item(text, "take", random.nextInt(lines), 0, 0);
            } else {
                item(text, random.nextBoolean() ? "verse" : "words", 0, 2, 1);
            }
        }
        spoil(text);
        return text.toString();
    }

    private void item(StringBuilder text, String name, int number, int many, int below) {
        text.append(name);
        gap(text, 1);
        text.append(number);
        for (int i = 0; i < many; i++) {
            text.append(' ');
            gap(text, 9);
            text.append(random.nextInt(20) == 0 ? "0" : "");
            text.append(random.nextInt(below));
        }
        gap(text, 9);
        text.append(';');
    }

    private void gap(StringBuilder text, int seldom) {
        if (random.nextInt(seldom + 1) != 0 || seldom == 1) {
            text.append(seldom == 1 && random.nextInt(3) != 0 ? " " : "");
        } else {
            text.append("  ", 0, 1 + random.nextInt(2));
        }
    }

    private void spoil(StringBuilder text) {
        int times = random.nextInt(3) == 0 ? 1 : 0;
        for (int i = 0; i < times; i++) {
            int at = random.nextInt(text.length());
            String signs = " ;0179azwput-A\t{`/:\u0000\u007f";
            switch (random.nextInt(4)) {
                case 0: text.deleteCharAt(at); break;
                case 1: text.setLength(at); break;
                case 2: text.insert(at, signs.charAt(random.nextInt(signs.length()))); break;
                default: text.setCharAt(at, signs.charAt(random.nextInt(signs.length())));
            }
        }
    }

    private long call(String name, int... numbers) throws Exception {
        Class<?>[] types = new Class<?>[numbers.length];
        Arrays.fill(types, int.class);
        Object[] values = Arrays.stream(numbers).boxed().toArray();
        Number got = (Number) AcrosticLines.class.getMethod(name, types).invoke(real, values);
        Number due = (Number) Model.class.getMethod(name, types).invoke(model, values);
        checks.same(run + ": " + name + Arrays.toString(numbers), got.longValue(), due.longValue());
        return due.longValue();
    }
}
