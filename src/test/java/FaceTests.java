import java.io.IOException;
import java.lang.reflect.Constructor;
import java.lang.reflect.Field;
import java.lang.reflect.Method;
import java.lang.reflect.Modifier;
import java.nio.file.Files;
import java.nio.file.Path;
import java.util.Arrays;
import java.util.HashMap;
import java.util.Map;
import java.util.Set;
import java.util.TreeSet;
import java.util.regex.Matcher;
import java.util.regex.Pattern;

/** The document's face, and what LANGUAGE.md rules out. Its argument: the class's source file. */
public final class FaceTests {
    private static final Checks C = new Checks("FaceTests");
    private static final String[] FACE = {"about int 2", "ask int 1", "cheap int 1", "clear int 0", "count int 1",
        "digest long 0", "evenings int 2", "first int 1", "fits int 2", "forget int 1", "form int 1", "forms int 0",
        "from int 1", "held int 0", "image int 1", "is int 0", "kinds int 1", "look int 0", "luck int 0",
        "mark int 4", "more int 0", "needs int 1", "note int 3", "of int 2", "part long 1", "poets int 1",
        "puts int 2", "read int 0", "rows int 2", "status int 1", "swaps int 2", "takes int 1", "type int 1",
        "undo int 0", "verse int 3", "ways int 0", "word int 3"};

    public static void main(String[] args) throws IOException {
        face();
        innerClasses();
        source(Files.readString(Path.of(args[0])));
        C.end();
    }

    private static void face() {
        Class<?> type = AcrosticLines.class;
        C.holds("the class is public and final", Modifier.isPublic(type.getModifiers()) && Modifier.isFinal(type.getModifiers()));
        Set<String> told = new TreeSet<>();
        for (Method method : type.getDeclaredMethods()) {
            if (Modifier.isPrivate(method.getModifiers())) {
                continue;
            }
            C.holds(method + " is public, not static", Modifier.isPublic(method.getModifiers()) && !Modifier.isStatic(method.getModifiers()));
            told.add(method.getName() + " " + method.getReturnType() + " " + method.getParameterCount());
        }
        C.holds("the methods are those of the document: " + told, told.equals(new TreeSet<>(Arrays.asList(FACE))));
        Constructor<?>[] constructors = type.getDeclaredConstructors();
        C.holds("one public constructor", constructors.length == 1 && Modifier.isPublic(constructors[0].getModifiers())
            && constructors[0].getParameterCount() == 0);
        Set<String> constants = new TreeSet<>();
        for (Field field : type.getDeclaredFields()) {
            if (!Modifier.isPrivate(field.getModifiers())) {
                constants.add(field.getName());
                C.same(field + " is public, static and final", field.getModifiers(), Modifier.PUBLIC | Modifier.STATIC | Modifier.FINAL);
            }
            C.holds(field + ": static fields are final", !Modifier.isStatic(field.getModifiers()) || Modifier.isFinal(field.getModifiers()));
        }
        C.holds("the constants are those of the document: " + constants, constants.equals(Set.of("NONE", "BAD", "NO", "FULL")));
        C.same("NONE", AcrosticLines.NONE, -1);
        C.same("BAD", AcrosticLines.BAD, -2);
        C.same("NO", AcrosticLines.NO, -3);
        C.same("FULL", AcrosticLines.FULL, -4);
        privateNames(type);
    }

    private static void privateNames(Class<?> type) {
        for (Method method : type.getDeclaredMethods()) {
            if (!Modifier.isPublic(method.getModifiers())) {
                C.holds(method + " bears no public name", Arrays.stream(FACE).noneMatch(f -> f.startsWith(method.getName() + " ")));
            }
            C.holds(method + " takes seven at most", method.getParameterCount() <= 7);
        }
    }

    private static void innerClasses() {
        Class<?>[] inner = AcrosticLines.class.getDeclaredClasses();
        C.holds("some twelve classes at most", inner.length < 12);
        for (Class<?> type : inner) {
            C.holds(type + " is static", Modifier.isStatic(type.getModifiers()));
            C.holds(type + " is not public or protected", (type.getModifiers() & (Modifier.PUBLIC | Modifier.PROTECTED)) == 0);
            long fields = Arrays.stream(type.getDeclaredFields()).filter(f -> !Modifier.isStatic(f.getModifiers())).count();
            C.holds(type + " has some twenty fields at most", fields <= 20);
            privateNames(type);
        }
    }

    private static void source(String whole) {
        String code = whole.replaceAll("(?s)/\\*.*?\\*/", "").replaceAll("//[^\n]*", "");
        String bare = code.replaceAll("\"[^\"\n]*\"", "\"\"").replaceAll("'[^'\n]'", "' '");
        for (String word : new String[] {"throw", "throws", "try", "catch", "synchronized", "assert", "package",
                "Exact", "Object", "Thread", "Random", "Exception", "Error", "float", "double", "volatile", "native"}) {
            C.holds("no " + word, !Pattern.compile("\\b\\w*" + word + "\\b").matcher(bare).find());
        }
        C.holds("no lambda", !bare.contains("->"));
        C.holds("no method reference", !bare.contains("::"));
        C.holds("no static initialiser", !Pattern.compile("static\\s*\\{").matcher(bare).find());
        C.holds("only signs 1 to 127", whole.chars().allMatch(sign -> sign >= 1 && sign <= 127));
        Matcher library = Pattern.compile("\\b(System|Arrays|Math|Integer|Long|Character)\\.(\\w+)").matcher(bare);
        Set<String> allowed = Set.of("System.arraycopy", "Arrays.fill", "Math.min", "Math.max", "Integer.bitCount");
        while (library.find()) {
            C.holds(library.group() + " may be used", allowed.contains(library.group()));
        }
        Matcher imports = Pattern.compile("import ([\\w.*]+);").matcher(bare);
        while (imports.find()) {
            C.holds(imports.group() + " may stand", imports.group(1).equals("java.util.Arrays"));
        }
        rowsAreUsedByTheGuards(bare);
        methodsAreShort(code);
        callsAreFlat(bare);
    }

    /** An index stands in at and set alone, where it is looked at; the machine must never throw. */
    private static void rowsAreUsedByTheGuards(String bare) {
        Matcher index = Pattern.compile("\\w\\[[^\\]]+\\]").matcher(bare);
        while (index.find()) {
            boolean isNew = index.start() >= 6 && bare.substring(index.start() - 6, index.start() + 1).contains("new ");
            boolean isGuarded = index.group().equals("w[i]");
            C.holds(index.group() + " is a guarded index or a new row", isNew || isGuarded);
        }
    }

    /** Rules 8 and 11: no method comes back to itself, and eight calls at most stand open at once. */
    private static void callsAreFlat(String bare) {
        Map<String, String> bodies = new HashMap<>();
        Pattern method = Pattern.compile("(?ms)^( {4}| {8})(?! |if|for|while|switch|else)[\\w\\[\\] ]*?(\\w+)\\([^()]*\\) \\{$(.*?)^\\1\\}");
        Matcher found = method.matcher(bare);
        while (found.find()) {
            C.holds(found.group(2) + " is the name of one method", bodies.put(found.group(2), found.group(3)) == null);
        }
        C.holds("the methods are found: " + bodies.size(), bodies.size() > 100 && bodies.containsKey("passFigures"));
        for (String name : bodies.keySet()) {
            int open = openCalls(name, bodies, 0);
            C.holds(name + " comes to " + open + " open calls", open <= 8);
        }
    }

    private static int openCalls(String name, Map<String, String> bodies, int above) {
        int deepest = 0;
        Matcher call = Pattern.compile("\\b(\\w+)\\(").matcher(bodies.get(name));
        while (call.find() && above < 20) {
            if (bodies.containsKey(call.group(1))) {
                deepest = Math.max(deepest, openCalls(call.group(1), bodies, above + 1));
            }
        }
        return 1 + deepest;
    }

    private static void methodsAreShort(String code) {
        int begun = 0;
        int line = 0;
        for (String text : code.split("\n")) {
            line++;
            if (text.matches(" {4}(    )?[\\w<].*\\) \\{")) {
                begun = line;
            } else if (text.matches(" {4}(    )?\\}")) {
                C.holds("the method that ends at line " + line + " is short", line - begun <= 60 || begun == 0);
                begun = 0;
            }
        }
    }
}
