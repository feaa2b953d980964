import java.io.File;
import java.io.IOException;
import java.lang.reflect.Method;
import java.lang.reflect.Modifier;
import java.nio.file.Files;
import java.nio.file.Path;

/** README.md says what is so: its example, the calls and the tests; run from the project's directory. */
final class ReadmeTest {
    private static final String[] EXAMPLE = {
        "PuddleStairs stairs = new PuddleStairs();   // 4 flights with 8 steps each, all levels 0",
        "stairs.lay(2, 3);                           // 6: so many puddles there are now",
        "stairs.splash(0, 0, 1, 2, 18);              // 6: each level is 18",
        "stairs.setEdge(2, 10);                      // 50: the edge before",
        "int over = stairs.passHours(1);             // 7: what goes over the last edge",
        "stairs.undo();                              // 6: all levels are 18 again",
        "long gone = stairs.gone();                  // 7: that stays",
    };

    private ReadmeTest() {
    }

    public static void main(String[] args) throws IOException {
        String text = Files.readString(Path.of("README.md"));
        theExample(text);
        namesAllCalls(text);
        namesAllTests(text);
        Check.end();
    }

    private static void theExample(String text) {
        Check.due("README.md has the example", text.contains(String.join("\n", EXAMPLE)) ? 1 : 0, 1);
        PuddleStairs stairs = new PuddleStairs();
        Check.levelsDue("the example's beginning", stairs, new int[4][8]);
        Check.due("lay(2, 3)", stairs.lay(2, 3), 6);
        Check.due("splash(0, 0, 1, 2, 18)", stairs.splash(0, 0, 1, 2, 18), 6);
        Check.due("setEdge(2, 10)", stairs.setEdge(2, 10), 50);
        Check.due("passHours(1)", stairs.passHours(1), 7);
        Check.due("undo()", stairs.undo(), 6);
        Check.levelsDue("the example's end", stairs, new int[][] {{18, 18, 18}, {18, 18, 18}});
        Check.due("gone()", stairs.gone(), 7);
    }

    private static void namesAllCalls(String text) {
        for (Method method : PuddleStairs.class.getDeclaredMethods()) {
            if (Modifier.isPublic(method.getModifiers())) {
                names(text, method.getName());
            }
        }
    }

    private static void namesAllTests(String text) {
        String[] files = new File("src/test/java").list();
        Check.due("tests lie in src/test/java", files == null ? 0 : 1, 1);
        if (files != null) {
            for (String file : files) {
                if (file.endsWith("Test.java")) {
                    names(text, file.substring(0, file.length() - ".java".length()));
                }
            }
        }
    }

    private static void names(String text, String name) {
        Check.due("README.md names " + name, text.contains("`" + name + "`") ? 1 : 0, 1);
    }
}
