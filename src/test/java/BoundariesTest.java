import java.io.IOException;
import java.lang.reflect.Method;
import java.nio.file.Files;
import java.nio.file.Path;
import java.util.regex.Matcher;
import java.util.regex.Pattern;

/** The list in src/test/BOUNDARIES.md names tests that are there. */
final class BoundariesTest {
    private static final Path LIST = Path.of("src/test/BOUNDARIES.md");
    private static final Pattern NAME = Pattern.compile("`(\\w+Test)\\.(\\w+)`");
    private static final Check CHECK = new Check("BoundariesTest");

    public static void main(String[] args) throws IOException {
        Matcher named = NAME.matcher(Files.readString(LIST));
        while (named.find()) {
            CHECK.due("a test named " + named.group(), isThere(named.group(1), named.group(2)), true);
        }
        CHECK.end();
    }

    private static boolean isThere(String test, String name) {
        try {
            for (Method method : Class.forName(test).getDeclaredMethods()) {
                if (method.getName().equals(name)) {
                    return true;
                }
            }
        } catch (ClassNotFoundException e) {
            System.out.println("there is no " + test);
        }
        return false;
    }
}
