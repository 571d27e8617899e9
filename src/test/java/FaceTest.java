import java.lang.reflect.Constructor;
import java.lang.reflect.Field;
import java.lang.reflect.Method;
import java.lang.reflect.Modifier;
import java.nio.file.Files;
import java.nio.file.Path;
import java.util.Map;
import java.util.Set;
import java.util.TreeMap;
import java.util.TreeSet;
import java.util.regex.Matcher;
import java.util.regex.Pattern;

/** The public face of the class, and those rules of LANGUAGE.md that a look at the file can tell. */
public final class FaceTest {
    private static final Set<String> METHODS = Set.of(
            "addGroup(int)", "addClass(int,int,int,int)", "setGroupQuantum(int,int)",
            "setQuantum(int,int)", "setAge(int,int)", "add(int,int)", "pass(int)", "mark()",
            "type(char)", "clearText()", "readJobs()", "undo()", "keep()", "restore()",
            "group(int,int)", "classOf(int,int)", "job(int,int)", "served(int)", "beginsAt(int)",
            "bound(int)", "shares(int,int)", "count(int)");

    private static final Map<String, Integer> CONSTANTS = Map.of(
            "UNKNOWN", -1, "BAD_VALUE", -2, "FULL", -3, "NOT_POSSIBLE", -4, "NONE", -5);

    private FaceTest() {
    }

    private static void due(String what, boolean holds) {
        Due.equal(what, holds ? 1 : 0, 1);
    }

    private static String signature(Method method) {
        StringBuilder text = new StringBuilder(method.getName()).append('(');
        for (Class<?> type : method.getParameterTypes()) {
            text.append(text.charAt(text.length() - 1) == '(' ? "" : ",").append(type.getName());
        }
        return text.append(')').toString();
    }

    private static void checkFace() throws IllegalAccessException {
        Class<?> face = DeficitCircles.class;
        due("public final", (face.getModifiers() & (Modifier.PUBLIC | Modifier.FINAL))
                == (Modifier.PUBLIC | Modifier.FINAL));
        Set<String> found = new TreeSet<>();
        for (Method method : face.getDeclaredMethods()) {
            int modifiers = method.getModifiers();
            if (method.isSynthetic() || Modifier.isPrivate(modifiers)) {
                due(method.getName() + " shares no name", METHODS.stream()
                        .noneMatch(m -> m.startsWith(method.getName() + "(")));
                continue;
            }
            found.add(signature(method));
            due(method + " is public and answers an int", Modifier.isPublic(modifiers)
                    && !Modifier.isStatic(modifiers) && method.getReturnType() == int.class);
        }
        due("the methods are those of the document", found.equals(new TreeSet<>(METHODS)));
        Map<String, Integer> values = new TreeMap<>();
        for (Field field : face.getDeclaredFields()) {
            int modifiers = field.getModifiers();
            if (!Modifier.isPrivate(modifiers)) {
                due(field + " is a constant", Modifier.isPublic(modifiers)
                        && Modifier.isStatic(modifiers) && Modifier.isFinal(modifiers)
                        && field.getType() == int.class);
                values.put(field.getName(), field.getInt(null));
            }
        }
        due("the constants are those of the document", values.equals(new TreeMap<>(CONSTANTS)));
        Constructor<?>[] constructors = face.getDeclaredConstructors();
        due("one public constructor", constructors.length == 1
                && Modifier.isPublic(constructors[0].getModifiers())
                && constructors[0].getParameterCount() == 0);
    }

    private static String withoutComments(String source) {
        return source.replaceAll("(?s)/\\*.*?\\*/", "").replaceAll("//[^\n]*", "");
    }

    private static void checkWords(String code) {
        for (String word : new String[] {"throw", "throws", "try", "catch", "synchronized", "assert",
            "import", "package", "public static void", "->", "::", "Exact(", "System.out", "Random",
            "Thread", "nanoTime", "currentTimeMillis", "hashCode", "toString", "Object", "var "}) {
            String pattern = Character.isLetter(word.charAt(0))
                    ? "\\b" + Pattern.quote(word) : Pattern.quote(word);
            due("the file goes without " + word, !Pattern.compile(pattern).matcher(code).find());
        }
        due("nested classes are static and private", code.split("\\bclass\\b").length - 1
                == code.split("private static final class\\b").length);
        Matcher library = Pattern.compile("\\b(System|Math|Integer|Long|Arrays)\\.(\\w+)").matcher(code);
        while (library.find()) {
            due("the list of the library has " + library.group(),
                    Set.of("System.arraycopy", "Math.min", "Math.max").contains(library.group()));
        }
    }

    private static void checkLengths(String source) {
        int length = 0;
        for (String line : source.split("\n")) {
            length = line.matches(" +(private |public |static )*[\\w\\[\\]]+ \\w+\\(.*\\) \\{")
                    ? 0 : length + 1;
            if (line.matches(" {4}( {4})?\\}")) {
                due("a method of " + length + " lines is short", length <= 60);
            }
        }
    }

    /** Every loop counts towards a bound that stands in its own head. */
    private static void checkLoops(String code) {
        Matcher heads = Pattern.compile("\\b(for|while|do)\\b ?(.*)").matcher(code);
        while (heads.find()) {
            String head = heads.group(2);
            boolean counts = head.matches("\\(int (\\w+) = [^;]+; \\1 < [\\w.]+( && \\1 < [A-Z_]+)?;"
                    + " \\1\\+\\+\\) \\{")
                    || head.matches("\\(int (\\w+) = [^;]+; \\1 >= 0; \\1--\\) \\{")
                    || head.matches("\\((\\w+) < [\\w.]+\\) \\{");
            due("the end of the loop is seen: " + heads.group(), counts);
        }
    }

    /** Static fields are constants, a class has some twenty fields, a method at most seven parameters. */
    private static void checkMembers(Class<?> type) {
        int fields = 0;
        for (Field field : type.getDeclaredFields()) {
            int modifiers = field.getModifiers();
            if (Modifier.isStatic(modifiers)) {
                due(field + " is a constant number", Modifier.isFinal(modifiers)
                        && field.getType().isPrimitive());
            } else {
                fields++;
            }
        }
        due(type + " has at most twenty fields", fields <= 20);
        for (Method method : type.getDeclaredMethods()) {
            due(method + " has at most seven parameters", method.getParameterCount() <= 7);
        }
    }

    private static void checkShape() {
        checkMembers(DeficitCircles.class);
        Class<?>[] inside = DeficitCircles.class.getDeclaredClasses();
        due("at most twelve classes", inside.length < 12);
        for (Class<?> type : inside) {
            checkMembers(type);
            due(type + " has no classes inside", type.getDeclaredClasses().length == 0);
        }
    }

    public static void main(String[] args) throws Exception {
        checkFace();
        checkShape();
        String source = Files.readString(Path.of("src/main/java/DeficitCircles.java"));
        due("only ASCII", source.chars().allMatch(c -> c == '\n' || c >= 32 && c < 127));
        checkWords(withoutComments(source));
        checkLoops(withoutComments(source));
        checkLengths(source);
        Due.finish("FaceTest");
    }
}
