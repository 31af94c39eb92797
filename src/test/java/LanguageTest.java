import java.io.IOException;
import java.lang.reflect.Constructor;
import java.lang.reflect.Executable;
import java.lang.reflect.Field;
import java.lang.reflect.Method;
import java.lang.reflect.Modifier;
import java.nio.file.Files;
import java.nio.file.Path;
import java.util.ArrayList;
import java.util.List;
import java.util.Set;
import java.util.regex.Matcher;
import java.util.regex.Pattern;

/** LANGUAGE.md's rules on PlantServer.java, as far as words, counts and reflection see them. */
final class LanguageTest {
    private static final Path SOURCE = Path.of("src/main/java/PlantServer.java");
    private static final int MOST_CLASSES = 12;
    private static final int MOST_FIELDS = 20;
    private static final int MOST_PARAMETERS = 7;
    private static final int MOST_LINES = 60;
    private static final String[] WORDS_LEFT_OUT = {
        "package", "finally", "synchronized", "assert", "getMessage", "getClass", "hashCode", "Exact",
    };
    private static final String[] SIGNS_LEFT_OUT = {"->", "::", "static {"};
    private static final Set<String> EXCEPTIONS = Set.of("IllegalStateException", "IllegalArgumentException",
        "IndexOutOfBoundsException", "ArithmeticException", "UnsupportedOperationException",
        "NoSuchElementException", "RuntimeException");
    private static final Pattern LIBRARY = Pattern.compile("\\b([A-Z]\\w*[a-z]\\w*)\\.(\\w+)");
    private static final Pattern THROWN = Pattern.compile("\\bthrow\\b(.*)");
    private static final Pattern THROW = Pattern.compile(" new (\\w+)\\((?:\"[ -~]*\")?\\);");
    private static final Pattern HEAD = Pattern.compile("(    |        )(?!if|for|while|do|else)\\w.*\\) (?:throws .*)?\\{");
    private static final Pattern LONG_HEAD = Pattern.compile("(    |        )    throws .*\\{");
    private static final Pattern CONSTRUCTOR = Pattern.compile(" +(public )?[A-Z]\\w*\\(.*");
    private static final Check CHECK = new Check("LanguageTest");

    public static void main(String[] args) throws IOException {
        String source = Files.readString(SOURCE);
        signs(source);
        words(codeOf(source));
        exceptions(withoutComments(source));
        library(codeOf(source));
        methods(source.lines().toList());
        classes();
        CHECK.end();
    }

    private static String withoutComments(String source) {
        return source.replaceAll("(?s)/\\*.*?\\*/", "").replaceAll("//.*", "");
    }

    private static String codeOf(String source) {
        return withoutComments(source).replaceAll("\"[^\"\n]*\"", "\"\"");
    }

    private static void signs(String source) {
        for (int i = 0; i < source.length(); i++) {
            char sign = source.charAt(i);
            if (sign != '\n' && (sign < 32 || sign > 126)) {
                CHECK.due("the sign at " + i, (int) sign, "one of 32 to 126");
            }
        }
        for (String left : SIGNS_LEFT_OUT) {
            CHECK.due("there is " + left, codeOf(source).contains(left), false);
        }
    }

    private static void words(String code) {
        for (String word : WORDS_LEFT_OUT) {
            CHECK.due("there is " + word, Pattern.compile("\\b" + word + "\\b").matcher(code).find(), false);
        }
    }

    /** Rule 6: a new one of the named ones, with a written text or none. */
    private static void exceptions(String code) {
        Matcher thrown = THROWN.matcher(code);
        while (thrown.find()) {
            Matcher form = THROW.matcher(thrown.group(1));
            CHECK.due("6: in its form is throw" + thrown.group(1),
                form.matches() && EXCEPTIONS.contains(form.group(1)), true);
        }
    }

    /** Rule 4: the one import, and of the library's static functions those of Math that never throw. */
    private static void library(String code) {
        List<String> imports = code.lines().filter(line -> line.startsWith("import")).toList();
        CHECK.due("4: imports", imports, List.of("import java.util.NoSuchElementException;"));
        Matcher called = LIBRARY.matcher(code.replace("java.util.NoSuchElementException", ""));
        while (called.find()) {
            boolean isFree = called.group(1).equals("Math") && !called.group(2).endsWith("Exact");
            CHECK.due("4: listed is " + called.group(), isFree, true);
        }
    }

    /** Rules 6 and 11: from the line that opens a method to the one that closes it, by their blanks. */
    private static void methods(List<String> lines) {
        int seen = 0;
        for (int i = 0; i < lines.size(); i++) {
            Matcher head = HEAD.matcher(lines.get(i));
            Matcher longHead = LONG_HEAD.matcher(lines.get(i));
            if (head.matches() || longHead.matches()) {
                String indent = head.matches() ? head.group(1) : longHead.group(1);
                List<String> rest = lines.subList(i, lines.size());
                int end = rest.indexOf(indent + "}");
                CHECK.due("11: short is the method of line " + (i + 1), end >= 0 && end < MOST_LINES, true);
                if (CONSTRUCTOR.matcher(lines.get(i)).matches()) {
                    boolean throwsEarly = String.join(" ", rest.subList(0, end + 1)).contains("throw");
                    CHECK.due("6: it throws, the constructor of line " + (i + 1), throwsEarly, false);
                } else {
                    seen++;
                }
            }
        }
        int declared = 0;
        for (Class<?> one : allClasses()) {
            declared += one.getDeclaredMethods().length;
        }
        CHECK.due("how many methods were seen", seen, declared);
    }

    private static List<Class<?>> allClasses() {
        List<Class<?>> all = new ArrayList<>(List.of(PlantServer.class));
        all.addAll(List.of(PlantServer.class.getDeclaredClasses()));
        return all;
    }

    private static void classes() {
        List<Class<?>> all = allClasses();
        CHECK.due("11: so many classes", all.size() <= MOST_CLASSES, true);
        for (Class<?> one : all) {
            fields(one);
            for (Method method : one.getDeclaredMethods()) {
                parameters(method);
            }
            for (Constructor<?> constructor : one.getDeclaredConstructors()) {
                parameters(constructor);
            }
        }
    }

    private static void fields(Class<?> one) {
        int count = 0;
        for (Field field : one.getDeclaredFields()) {
            count += Modifier.isStatic(field.getModifiers()) ? 0 : 1;
            Class<?> type = field.getType();
            Class<?> part = type.isArray() ? type.getComponentType() : type;
            boolean isOwn = part.isPrimitive() || part.getName().startsWith("PlantServer$");
            CHECK.due("3: of a type that is left is " + one.getName() + "." + field.getName(), isOwn, true);
        }
        CHECK.due("11: so many fields has " + one.getName(), count <= MOST_FIELDS, true);
    }

    private static void parameters(Executable method) {
        CHECK.due("11: so many parameters has " + method, method.getParameterCount() <= MOST_PARAMETERS, true);
    }
}
