import java.io.IOException;
import java.lang.reflect.Field;
import java.lang.reflect.Method;
import java.lang.reflect.Modifier;
import java.nio.file.Files;
import java.nio.file.Path;
import java.util.ArrayList;
import java.util.Arrays;
import java.util.HashSet;
import java.util.List;
import java.util.Set;
import java.util.regex.Matcher;
import java.util.regex.Pattern;

/** The rules of LANGUAGE.md that can be read off the class or its text; FaceTest has the first half of rule 1. */
public final class LanguageTest {
    private static final Path SOURCE = Path.of("src", "main", "java", "FrameSwapper.java");
    private static final String[] NOT_ALLOWED = {"package", "try", "finally", "synchronized", "assert", "instanceof",
        "protected", "System.out", "System.err", "System.nanoTime", "System.currentTimeMillis", "Random", "Thread",
        "getMessage", "equals", "hashCode", "toString", "double", "float", "native", "volatile"};
    private static final Set<String> IMPORTS = Set.of("java.util.Arrays", "java.util.ArrayList", "java.util.List");
    private static final Set<String> THROWN = Set.of("IllegalStateException", "IllegalArgumentException",
        "IndexOutOfBoundsException");
    private static final Set<String> LIBRARY = Set.of("Math.max", "Math.min", "System.arraycopy", "Arrays.fill");

    private final List<String> lines;
    private final String text;

    private LanguageTest(List<String> lines) {
        this.lines = lines;
        text = String.join("\n", lines);
    }

    public static void main(String[] args) throws IOException {
        namesOfPublicOnes();
        staticFields();
        sizes();
        List<String> code = new ArrayList<>();
        for (String line : Files.readAllLines(SOURCE)) {
            // Comments may say what code may not.
            code.add(line.replaceAll("//.*|/\\*\\*.*\\*/", ""));
        }
        LanguageTest test = new LanguageTest(code);
        test.words();
        test.library();
        test.throwing();
        test.lengthOfMethods();
        Checks.end();
    }

    private static List<Class<?>> classes() {
        List<Class<?>> all = new ArrayList<>(Arrays.asList(FrameSwapper.class.getDeclaredClasses()));
        all.add(FrameSwapper.class);
        return all;
    }

    /** Rule 1: no private method bears the name of a public one; here none of a class inside does. */
    private static void namesOfPublicOnes() {
        Set<String> names = new HashSet<>();
        for (Method method : FrameSwapper.class.getMethods()) {
            names.add(method.getName());
        }
        for (Class<?> inside : classes()) {
            for (Method method : inside.getDeclaredMethods()) {
                boolean face = inside == FrameSwapper.class && Modifier.isPublic(method.getModifiers());
                Checks.same(method + " bears a public name", !face && names.contains(method.getName()) ? 1 : 0, 0);
            }
        }
    }

    /** Rule 5: static fields are final, and no array or object. */
    private static void staticFields() {
        for (Class<?> inside : classes()) {
            for (Field field : inside.getDeclaredFields()) {
                if (Modifier.isStatic(field.getModifiers())) {
                    boolean right = Modifier.isFinal(field.getModifiers()) && field.getType() == int.class;
                    Checks.same(field + " is a constant", right ? 1 : 0, 1);
                }
            }
        }
    }

    /** Rule 11: parameters, classes, fields. The document gives copy eight parameters. */
    private static void sizes() {
        Checks.same("twelve classes at most", classes().size() <= 12 ? 1 : 0, 1);
        for (Class<?> inside : classes()) {
            int fields = 0;
            for (Field field : inside.getDeclaredFields()) {
                fields += Modifier.isStatic(field.getModifiers()) ? 0 : 1;
            }
            Checks.same(inside + " has twenty fields at most", fields <= 20 ? 1 : 0, 1);
            for (Method method : inside.getDeclaredMethods()) {
                boolean few = method.getParameterCount() <= 7 || method.getName().equals("copy");
                Checks.same(method + " has seven parameters at most", few ? 1 : 0, 1);
            }
        }
    }

    private int times(String pattern) {
        Matcher matcher = Pattern.compile(pattern).matcher(text);
        int times = 0;
        while (matcher.find()) {
            times++;
        }
        return times;
    }

    /** Rules 2, 3, 6, 13: what is not written at all. */
    private void words() {
        for (String word : NOT_ALLOWED) {
            Checks.same("times " + word, times("\\b" + Pattern.quote(word) + "\\b"), 0);
        }
        Checks.same("lambdas and method references", times("->|::"), 0);
        Checks.same("generic or text values", times("\"|<[A-Z]"), 0);
        Checks.same("classes that are neither private, static nor final",
            times("\\b(class|record|enum|interface) ") - times("private static final class ") - 1, 0);
    }

    /** Rule 4: imports, and functions of other classes. */
    private void library() {
        Matcher imports = Pattern.compile("import ([\\w.]+);").matcher(text);
        while (imports.find()) {
            Checks.same("import " + imports.group(1), IMPORTS.contains(imports.group(1)) ? 1 : 0, 1);
        }
        Matcher functions = Pattern.compile("\\b([A-Z]\\w*[a-z]\\w*\\.\\w+)\\(").matcher(text);
        while (functions.find()) {
            Checks.same(functions.group(1), LIBRARY.contains(functions.group(1)) ? 1 : 0, 1);
        }
    }

    /** Rule 6: throw new E(), E one that the document names. */
    private void throwing() {
        Matcher thrown = Pattern.compile("\\bthrow\\b([^;]*);").matcher(text);
        int times = 0;
        while (thrown.find()) {
            String what = thrown.group(1).replace(" new ", "").replace("()", "");
            Checks.same("throw" + thrown.group(1), THROWN.contains(what) ? 1 : 0, 1);
            times++;
        }
        Checks.same("throws something", times > 0 ? 1 : 0, 1);
    }

    /** Rule 11: some sixty lines a method; none is as long as that. */
    private void lengthOfMethods() {
        int begun = -1;
        String indent = "";
        for (int i = 0; i < lines.size(); i++) {
            String line = lines.get(i);
            if (begun < 0 && line.matches(" +[\\w\\[\\] ]+\\(.*\\{") && !line.matches(" +(if|for|while|switch|}).*")) {
                begun = i;
                indent = line.substring(0, line.length() - line.stripLeading().length());
            } else if (begun >= 0 && line.equals(indent + "}")) {
                Checks.same("lines from " + (begun + 1) + " on", i - begun <= 60 ? 1 : 0, 1);
                begun = -1;
            }
        }
        Checks.same("the last method has an end", begun, -1);
    }
}
