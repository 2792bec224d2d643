import java.io.IOException;
import java.lang.reflect.Method;
import java.lang.reflect.Modifier;
import java.nio.file.Files;
import java.nio.file.Path;
import java.util.ArrayList;
import java.util.Arrays;
import java.util.List;
import java.util.Set;
import java.util.TreeSet;
import java.util.regex.Matcher;
import java.util.regex.Pattern;

/** README.md: its rows of calls answer as it says, it shows each method, and it names each test. */
public final class ReadmeTests {
    private static final Checks C = new Checks("ReadmeTests");
    private static final Pattern CALL = Pattern.compile("verse\\.(\\w+)\\(([^()]*)\\); +// (-?\\d+)\\b.*");
    private static final Pattern TYPED = Pattern.compile("for \\(char c : \"([^\"]*)\"\\.toCharArray\\(\\)\\) verse\\.type\\(c\\);");

    public static void main(String[] args) throws IOException, ReflectiveOperationException {
        String readme = Files.readString(Path.of("README.md"));
        rowsAnswerAsTold(readme);
        testsAreNamed(readme);
        C.end();
    }

    private static void rowsAnswerAsTold(String readme) throws ReflectiveOperationException {
        int begin = readme.indexOf("```java\n");
        int end = readme.indexOf("```", begin + 3);
        C.holds("there is a block of calls", begin >= 0 && end > begin);
        AcrosticLines verse = new AcrosticLines();
        Set<String> shown = new TreeSet<>();
        for (String row : readme.substring(begin, end).split("\n")) {
            Matcher call = CALL.matcher(row);
            Matcher typed = TYPED.matcher(row);
            if (call.matches()) {
                shown.add(call.group(1));
                C.same(row, answer(verse, call.group(1), call.group(2)), Long.parseLong(call.group(3)));
            } else if (typed.matches()) {
                shown.add("type");
                typed.group(1).chars().forEach(verse::type);
            } else {
                C.holds("a row that can be run: " + row, !row.contains("verse.") && !row.startsWith("for"));
            }
        }
        C.holds("each method is shown: " + shown, shown.equals(methods()));
    }

    private static long answer(AcrosticLines verse, String name, String told) throws ReflectiveOperationException {
        List<Object> numbers = new ArrayList<>();
        for (String number : told.isEmpty() ? new String[0] : told.split(", ")) {
            numbers.add(number.equals("AcrosticLines.NONE") ? AcrosticLines.NONE : Integer.parseInt(number));
        }
        Class<?>[] types = new Class<?>[numbers.size()];
        Arrays.fill(types, int.class);
        return ((Number) AcrosticLines.class.getMethod(name, types).invoke(verse, numbers.toArray())).longValue();
    }

    private static Set<String> methods() {
        Set<String> names = new TreeSet<>();
        for (Method method : AcrosticLines.class.getDeclaredMethods()) {
            if (Modifier.isPublic(method.getModifiers())) {
                names.add(method.getName());
            }
        }
        return names;
    }

    private static void testsAreNamed(String readme) throws IOException {
        C.holds("how the tests are run", readme.contains("`bash .ci/run`"));
        try (var files = Files.list(Path.of("src/test/java"))) {
            files.map(file -> file.getFileName().toString()).filter(file -> file.endsWith("Tests.java")).forEach(file ->
                C.holds(file + " is named", readme.contains("`" + file.replace(".java", "") + "`")));
        }
    }
}
