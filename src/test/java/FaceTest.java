import java.io.IOException;
import java.lang.reflect.Constructor;
import java.lang.reflect.Field;
import java.lang.reflect.Method;
import java.lang.reflect.Modifier;
import java.nio.file.Files;
import java.nio.file.Path;
import java.util.ArrayList;
import java.util.Arrays;
import java.util.HashSet;
import java.util.List;
import java.util.Set;
import java.util.regex.Matcher;
import java.util.regex.Pattern;

/** The public face of DOC.md, and those rules of LANGUAGE.md that a text or the compiled class shows. */
public final class FaceTest {
    private static final Check check = new Check();
    private static final Path PROGRAM = Path.of("src/main/java/WhistleJunction.java");
    private static final Path DOCUMENT = Path.of("../shared/DOC.md");
    private static final Pattern FACE_LINE = Pattern.compile("    public (\\w+) (\\w+)\\((.*?)\\)(?: throws (.*))?;");

    public static void main(String[] args) throws IOException {
        String source = Files.readString(PROGRAM);
        theFaceIsThatOfTheDocument();
        nothingElseIsVisible();
        classesInsideAreStatic();
        noPrivateMethodBearsAPublicName();
        theSourceKeepsToTheLanguage(source);
        methodsAreShort(source);
        check.end("FaceTest");
    }

    private static void theFaceIsThatOfTheDocument() throws IOException {
        Set<String> due = new HashSet<>();
        Matcher matcher = FACE_LINE.matcher(Files.readString(DOCUMENT));
        while (matcher.find()) {
            List<String> types = new ArrayList<>();
            for (String parameter : matcher.group(3).split(", ")) {
                types.add(parameter.split(" ")[0]);
            }
            String thrown = matcher.group(4) == null ? "" : matcher.group(4);
            due.add(matcher.group(1) + " " + matcher.group(2) + types + thrown);
        }
        Set<String> got = new HashSet<>();
        for (Method method : WhistleJunction.class.getDeclaredMethods()) {
            if (Modifier.isPublic(method.getModifiers())) {
                got.add(faceOf(method));
            }
        }
        check.due("the methods of the document", 37, () -> due.size());
        check.due("the face", due, () -> got);
    }

    private static String faceOf(Method method) {
        List<String> types = new ArrayList<>();
        for (Class<?> type : method.getParameterTypes()) {
            types.add(type.getSimpleName());
        }
        if (types.isEmpty()) {
            types.add("");
        }
        List<String> thrown = new ArrayList<>();
        for (Class<?> type : method.getExceptionTypes()) {
            thrown.add(type.getSimpleName());
        }
        return method.getReturnType().getSimpleName() + " " + method.getName() + types + String.join(", ", thrown);
    }

    private static void nothingElseIsVisible() {
        Class<?> face = WhistleJunction.class;
        check.due("public and final", Modifier.PUBLIC | Modifier.FINAL, () -> face.getModifiers());
        Constructor<?>[] constructors = face.getDeclaredConstructors();
        check.due("one constructor", 1, () -> constructors.length);
        check.due("a public one", true, () -> Modifier.isPublic(constructors[0].getModifiers()));
        for (Method method : face.getDeclaredMethods()) {
            int modifiers = method.getModifiers();
            boolean isFit = Modifier.isPublic(modifiers) && !Modifier.isStatic(modifiers) || Modifier.isPrivate(modifiers);
            check.due(method.getName(), true, () -> isFit);
        }
        for (Field field : face.getDeclaredFields()) {
            check.due("private " + field.getName(), true, () -> Modifier.isPrivate(field.getModifiers()));
        }
    }

    private static void classesInsideAreStatic() {
        Class<?>[] inside = WhistleJunction.class.getDeclaredClasses();
        check.due("some twelve classes at most", true, () -> inside.length <= 11);
        for (Class<?> one : inside) {
            check.due("static " + one, true, () -> Modifier.isStatic(one.getModifiers()));
            check.due("private " + one, true, () -> Modifier.isPrivate(one.getModifiers()));
            for (Field field : one.getDeclaredFields()) {
                boolean isFit = !Modifier.isStatic(field.getModifiers()) || Modifier.isFinal(field.getModifiers());
                check.due("no static state " + field, true, () -> isFit);
            }
        }
    }

    private static void noPrivateMethodBearsAPublicName() {
        Set<String> face = new HashSet<>();
        for (Method method : WhistleJunction.class.getMethods()) {
            face.add(method.getName());
        }
        List<Class<?>> all = new ArrayList<>(Arrays.asList(WhistleJunction.class.getDeclaredClasses()));
        all.add(WhistleJunction.class);
        for (Class<?> one : all) {
            for (Method method : one.getDeclaredMethods()) {
                boolean isFit = Modifier.isPublic(method.getModifiers()) || !face.contains(method.getName());
                check.due("a name of its own: " + method, true, () -> isFit);
            }
        }
    }

    private static void theSourceKeepsToTheLanguage(String source) {
        String[] banned = {"->", "::", "catch", "finally", "try ", "synchronized", "assert", "instanceof", "Object",
            "Exact(", "System.", "Thread", "Random", "static {", "package "};
        for (String word : banned) {
            check.due("without " + word, false, () -> source.contains(word));
        }
        List<String> imports = source.lines().filter(line -> line.startsWith("import")).toList();
        check.due("imports", List.of("import java.util.NoSuchElementException;"), () -> imports);
        check.due("plain characters", true, () -> source.chars().allMatch(c -> c == '\n' || c >= 32 && c < 127));
        Matcher made = Pattern.compile("new (\\w+)").matcher(source);
        Set<String> allowed = Set.of("State", "History", "Input", "Strip", "Row", "StringBuilder", "int",
            "IllegalStateException", "IllegalArgumentException", "IndexOutOfBoundsException", "ArithmeticException",
            "UnsupportedOperationException", "NoSuchElementException");
        while (made.find()) {
            String type = made.group(1);
            check.due("made: " + type, true, () -> allowed.contains(type));
        }
    }

    private static void methodsAreShort(String source) {
        String[] lines = source.split("\n");
        int methods = 0;
        for (int i = 0; i < lines.length; i++) {
            Matcher head = Pattern.compile("( +)[\\w\\[\\] ]+\\([\\w, ]*\\)[\\w, ]* \\{").matcher(lines[i]);
            if (head.matches()) {
                int start = i;
                int length = Arrays.asList(lines).subList(start, lines.length).indexOf(head.group(1) + "}");
                check.due("short: line " + (start + 1), true, () -> length > 0 && length <= 60);
                methods++;
            }
        }
        int found = methods;
        check.due("methods were found", true, () -> found > 100);
    }
}
