import java.io.IOException;
import java.lang.reflect.Constructor;
import java.lang.reflect.Field;
import java.lang.reflect.Method;
import java.lang.reflect.Modifier;
import java.nio.file.Files;
import java.nio.file.Path;
import java.util.Arrays;
import java.util.List;
import java.util.Set;
import java.util.TreeSet;
import java.util.regex.Pattern;

/**
 * The public face is the document's, word for word, and the class keeps to what of ../shared/LANGUAGE.md can be seen
 * from outside or by single words. Run from the root of the project.
 */
public final class PlayoutChainFaceTest {
    private static final Path DOCUMENT = Path.of("../shared/DOC.md");
    private static final Path SOURCE = Path.of("src/main/java/PlayoutChain.java");

    private static final List<String> WORDS_RULED_OUT = List.of("->", "::", "\\binstanceof\\b.*&&.*\\(\\(",
            "\\bfinally\\b", "\\bsynchronized\\b", "\\bassert\\b", "\\btry\\b", "\\bcatch\\b", "\\bprotected\\b",
            "\\bSystem\\.(?!arraycopy)", "\\bThread\\b", "\\bRandom\\b", "\\bFloat\\b", "\\bDouble\\b", "\\bObject\\b",
            "\\bString\\.", "Exact\\b", "\\bhashCode\\b", "\\bequals\\b", "\\btoString\\b", "\\bthrow (?!new )",
            "\\bimport (?!java\\.util\\.(ArrayList|Arrays|NoSuchElementException);)", "\\bpackage\\b", "\\bstatic \\{",
            "\\bMap\\b", "\\bvar\\b", "NaN", "while \\(true\\)", "for \\(;;\\)");

    private static int passed = 0;
    private static int failed = 0;

    public static void main(String[] args) throws IOException {
        faceIsTheDocuments();
        nothingElseIsVisible();
        nestedClasses();
        noPrivateMethodBearsAPublicName();
        noStaticState();
        wordsOfTheSource();
        lengthsOfMethods();
        System.out.println("PlayoutChainFaceTest: " + passed + " passed, " + failed + " failed");
        if (failed != 0) {
            System.exit(1);
        }
    }

    private static void holds(boolean holds, String what) {
        if (holds) {
            passed++;
        } else {
            failed++;
            System.out.println(what);
        }
    }

    /** Compares the lines of the document's java block with what reflection tells, parameter names aside. */
    private static void faceIsTheDocuments() throws IOException {
        Set<String> due = new TreeSet<>();
        boolean inFace = false;
        for (String line : Files.readAllLines(DOCUMENT)) {
            if (line.startsWith("```")) {
                inFace = line.equals("```java");
            } else if (inFace && line.startsWith("    public ")) {
                due.add(line.trim().replaceAll("(int|long|char|float|boolean|String) \\w+([,)])", "$1$2")
                        .replace(";", ""));
            }
        }
        Set<String> got = new TreeSet<>();
        for (Method method : PlayoutChain.class.getDeclaredMethods()) {
            if (Modifier.isPublic(method.getModifiers())) {
                got.add(told(method));
            }
        }
        for (Constructor<?> constructor : PlayoutChain.class.getDeclaredConstructors()) {
            got.add("public PlayoutChain()" + (constructor.getParameterCount() == 0 ? "" : " with parameters"));
        }
        holds(due.size() == 37, "the document's face has " + due.size() + " lines");
        for (String line : due) {
            holds(got.contains(line), "the class has not: " + line);
        }
        for (String line : got) {
            holds(due.contains(line), "the document has not: " + line);
        }
        holds(Modifier.isFinal(PlayoutChain.class.getModifiers()), "the class is not final");
    }

    private static String told(Method method) {
        StringBuilder line = new StringBuilder("public ");
        line.append(method.getReturnType().getSimpleName()).append(' ').append(method.getName()).append('(');
        String separator = "";
        for (Class<?> type : method.getParameterTypes()) {
            line.append(separator).append(type.getSimpleName());
            separator = ", ";
        }
        line.append(')');
        separator = " throws ";
        for (Class<?> type : method.getExceptionTypes()) {
            line.append(separator).append(type.getSimpleName());
            separator = ", ";
        }
        return line.toString();
    }

    private static void nothingElseIsVisible() {
        for (Method method : PlayoutChain.class.getDeclaredMethods()) {
            int modifiers = method.getModifiers();
            holds(Modifier.isPublic(modifiers) || Modifier.isPrivate(modifiers), "visible: " + method);
        }
        for (Field field : PlayoutChain.class.getDeclaredFields()) {
            holds(Modifier.isPrivate(field.getModifiers()), "visible: " + field);
        }
    }

    private static void nestedClasses() {
        Class<?>[] nested = PlayoutChain.class.getDeclaredClasses();
        holds(nested.length <= 12, "there are " + nested.length + " classes inside");
        for (Class<?> type : nested) {
            int modifiers = type.getModifiers();
            holds(Modifier.isStatic(modifiers), "not static: " + type);
            holds(!Modifier.isPublic(modifiers) && !Modifier.isProtected(modifiers), "visible: " + type);
            long fields = Arrays.stream(type.getDeclaredFields()).filter(f -> !Modifier.isStatic(f.getModifiers()))
                    .count();
            holds(fields <= 20, type + " has " + fields + " fields");
        }
    }

    private static void noPrivateMethodBearsAPublicName() {
        Set<String> names = new TreeSet<>();
        for (Method method : PlayoutChain.class.getDeclaredMethods()) {
            if (Modifier.isPublic(method.getModifiers())) {
                names.add(method.getName());
            }
        }
        for (Method method : PlayoutChain.class.getDeclaredMethods()) {
            holds(Modifier.isPublic(method.getModifiers()) || !names.contains(method.getName()), "bears: " + method);
            holds(method.getParameterCount() <= 7, "too many parameters: " + method);
        }
        for (Class<?> type : PlayoutChain.class.getDeclaredClasses()) {
            for (Method method : type.getDeclaredMethods()) {
                holds(!names.contains(method.getName()), "bears: " + method);
                holds(method.getParameterCount() <= 7, "too many parameters: " + method);
            }
        }
    }

    private static void noStaticState() {
        Set<Class<?>> kinds = Set.of(int.class, long.class, boolean.class, char.class, String.class);
        for (Field field : PlayoutChain.class.getDeclaredFields()) {
            if (Modifier.isStatic(field.getModifiers())) {
                holds(Modifier.isFinal(field.getModifiers()) && kinds.contains(field.getType()), "static: " + field);
            }
        }
        for (Class<?> type : PlayoutChain.class.getDeclaredClasses()) {
            for (Field field : type.getDeclaredFields()) {
                if (Modifier.isStatic(field.getModifiers())) {
                    holds(Modifier.isFinal(field.getModifiers()) && kinds.contains(field.getType()),
                            "static: " + field);
                }
            }
        }
    }

    private static void wordsOfTheSource() throws IOException {
        List<String> lines = Files.readAllLines(SOURCE);
        for (int i = 0; i < lines.size(); i++) {
            String line = lines.get(i);
            for (String word : WORDS_RULED_OUT) {
                holds(!Pattern.compile(word).matcher(line).find(), SOURCE + ", line " + (i + 1) + " has " + word);
            }
            holds(line.chars().allMatch(sign -> sign < 128), SOURCE + ", line " + (i + 1) + " has a foreign sign");
        }
    }

    private static void lengthsOfMethods() throws IOException {
        int start = -1;
        List<String> lines = Files.readAllLines(SOURCE);
        for (int i = 0; i < lines.size(); i++) {
            String line = lines.get(i);
            if (line.matches(" {4}(public|private) .*\\).*")
                    || line.matches(" {8}(private )?[\\w.<>\\[\\]]+ \\w+\\(.*\\) \\{")) {
                start = i;
            }
            if (start >= 0 && (line.equals("    }") || line.equals("        }"))) {
                holds(i - start < 60, SOURCE + ", line " + (start + 1) + ": a method of " + (i - start) + " lines");
                start = line.equals("    }") ? -1 : start;
            }
        }
    }
}
