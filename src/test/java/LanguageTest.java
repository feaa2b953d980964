import java.io.IOException;
import java.lang.reflect.Constructor;
import java.lang.reflect.Executable;
import java.lang.reflect.Field;
import java.lang.reflect.Method;
import java.lang.reflect.Modifier;
import java.nio.file.Files;
import java.nio.file.Path;
import java.util.ArrayList;
import java.util.Arrays;
import java.util.List;
import java.util.Set;
import java.util.TreeSet;
import java.util.regex.Matcher;
import java.util.regex.Pattern;

/** The class keeps to what of LANGUAGE.md can be seen in its text and its members; run from the project's directory. */
final class LanguageTest {
    private static final Path FILE = Path.of("src/main/java/PuddleStairs.java");
    private static final Set<String> LIBRARY = Set.of("Math.max", "Math.min");
    private static final Set<String> EXCEPTIONS = Set.of("IllegalStateException", "IllegalArgumentException", "IndexOutOfBoundsException");
    private static final String[] FORBIDDEN = {
        "package", "import", "try", "catch", "finally", "synchronized", "assert", "native", "volatile", "transient",
        "strictfp", "protected", "var", "goto", "extends", "implements", "instanceof", "float", "null",
    };

    private LanguageTest() {
    }

    public static void main(String[] args) throws IOException {
        String text = Files.readString(FILE);
        signs(text);
        String code = withoutComments(text);
        words(code);
        library(code);
        whatIsMade(code);
        methodLengths(code);
        for (Class<?> each : classes()) {
            members(each);
        }
        Check.end();
    }

    /** Rule 4: signs 1 to 127. */
    private static void signs(String text) {
        Check.due("signs above 127", text.chars().filter(sign -> sign > 127).count(), 0);
    }

    /** Texts go too: what stands in them is no code. */
    private static String withoutComments(String text) {
        return text.replaceAll("\"[^\"\n]*\"", "\"\"").replaceAll("(?s)/\\*.*?\\*/", "").replaceAll("//[^\n]*", "");
    }

    /** Rules 1, 2, 3, 6 and 10: words that the class has no use for. */
    private static void words(String code) {
        for (String word : FORBIDDEN) {
            Check.due("'" + word + "' in the code", found("\\b" + word + "\\b", code).size(), 0);
        }
        Check.due("lambdas and arrows", found("->", code).size(), 0);
        Check.due("method references", found("::", code).size(), 0);
        Check.due("static initialiser blocks", found("static\\s*\\{", code).size(), 0);
        Check.due("texts joined by +", found("\"\\s*\\+|\\+\\s*\"", code).size(), 0);
    }

    /** Rule 4: of the library nothing but what the rule lists; a constant such as the greatest int is not there. */
    private static void library(String code) {
        Set<String> used = found("\\b[A-Z]\\w*[a-z]\\w*\\s*\\.\\s*\\w+", code);
        used.removeAll(LIBRARY);
        Check.dueText("names of the library beside max and min", used.toString(), "[]");
    }

    /** Rules 6 and 12: what is made is an own class, an array, or an exception with a written text. */
    private static void whatIsMade(String code) {
        Set<String> made = found("\\bnew\\s+\\w+", code);
        for (Class<?> each : classes()) {
            made.remove("new " + each.getSimpleName());
        }
        for (String each : EXCEPTIONS) {
            made.remove("new " + each);
        }
        made.remove("new int");
        Check.dueText("what else is made", made.toString(), "[]");
        Check.due("throws", count("\\bthrow\\s", code), count("\\bthrow new \\w+\\(\"\"\\);", code));
    }

    /** Rule 11: methods of some sixty lines. */
    private static void methodLengths(String code) {
        String[] lines = code.split("\n", -1);
        for (int start = 0; start < lines.length; start++) {
            String line = lines[start];
            String margin = line.substring(0, line.length() - line.stripLeading().length());
            boolean isMethod = line.endsWith("{") && line.contains("(") && (margin.length() == 4 || margin.length() == 8)
                && !line.strip().matches("(for|while|if|do|switch|else|\\}).*");
            if (isMethod) {
                int end = Arrays.asList(lines).subList(start, lines.length).indexOf(margin + "}");
                Check.due("a method of sixty lines at the most: " + line.strip(), end > 0 && end < 60 ? 1 : 0, 1);
            }
        }
    }

    private static List<Class<?>> classes() {
        List<Class<?>> all = new ArrayList<>(List.of(PuddleStairs.class.getDeclaredClasses()));
        all.add(0, PuddleStairs.class);
        return all;
    }

    private static void members(Class<?> each) {
        Check.due("twelve classes at the most", Math.max(12, classes().size()), 12);
        if (each != PuddleStairs.class) {
            Check.due(each + " can be seen from outside", each.getModifiers() & (Modifier.PUBLIC | Modifier.PROTECTED), 0);
            Check.due(each + " is static", each.getModifiers() & Modifier.STATIC, Modifier.STATIC);
        }
        List<Executable> executables = new ArrayList<>(List.<Method>of(each.getDeclaredMethods()));
        executables.addAll(List.<Constructor<?>>of(each.getDeclaredConstructors()));
        for (Executable executable : executables) {
            Check.due("seven parameters at the most: " + executable, Math.max(7, executable.getParameterCount()), 7);
        }
        int own = 0;
        for (Field field : each.getDeclaredFields()) {
            if (Modifier.isStatic(field.getModifiers())) {
                constant(field);
            } else {
                own++;
            }
        }
        Check.due("twenty fields at the most in " + each, Math.max(20, own), 20);
    }

    /** Rule 5. */
    private static void constant(Field field) {
        Check.due(field + " is final", field.getModifiers() & Modifier.FINAL, Modifier.FINAL);
        Check.due(field + " is an int or a long", field.getType() == int.class || field.getType() == long.class ? 1 : 0, 1);
    }

    private static Set<String> found(String pattern, String code) {
        Set<String> all = new TreeSet<>();
        Matcher matcher = Pattern.compile(pattern).matcher(code);
        while (matcher.find()) {
            all.add(matcher.group());
        }
        return all;
    }

    private static long count(String pattern, String code) {
        return Pattern.compile(pattern).matcher(code).results().count();
    }
}
