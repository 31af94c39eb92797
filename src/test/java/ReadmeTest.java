import java.io.IOException;
import java.lang.reflect.Method;
import java.lang.reflect.Modifier;
import java.nio.file.DirectoryStream;
import java.nio.file.Files;
import java.nio.file.Path;
import java.util.ArrayList;
import java.util.List;

/** README.md: its example answers as it says, and it names each call and each test. */
final class ReadmeTest {
    private static final Path README = Path.of("README.md");
    private static final Path TESTS = Path.of("src/test/java");
    private static final Check CHECK = new Check("ReadmeTest");

    public static void main(String[] args) throws IOException {
        String readme = Files.readString(README);
        CHECK.due("the example", exampleOf(readme), playedExample());
        for (Method method : PlantServer.class.getDeclaredMethods()) {
            if (Modifier.isPublic(method.getModifiers())) {
                String head = "`" + method.getName() + "(";
                CHECK.due("named is " + head, readme.contains(head), true);
            }
        }
        try (DirectoryStream<Path> files = Files.newDirectoryStream(TESTS, "*Test.java")) {
            for (Path file : files) {
                String row = "| `" + file.getFileName().toString().replace(".java", "") + "` |";
                CHECK.due("a row of the table is " + row, readme.contains(row), true);
            }
        }
        CHECK.end();
    }

    /** The lines of the first block of Java, with one blank where there are several. */
    private static List<String> exampleOf(String readme) {
        List<String> example = new ArrayList<>();
        boolean isInside = false;
        for (String line : readme.lines().toList()) {
            if (line.equals("```")) {
                break;
            }
            if (isInside) {
                example.add(line.replaceAll(" +", " "));
            }
            isInside |= line.equals("```java");
        }
        return example;
    }

    /** The same calls, each with what it answers here. */
    private static List<String> playedExample() {
        List<String> played = new ArrayList<>();
        PlantServer server = new PlantServer();
        played.add("PlantServer server = new PlantServer();");
        int subscription = server.open(2, 5, 10, 0, 10);
        played.add("int subscription = server.open(2, 5, 10, 0, 10); // " + subscription);
        int item = server.add(subscription, 3, 1, 4, true, 0);
        played.add("int item = server.add(subscription, 3, 1, 4, true, 0); // " + item);
        played.add("server.write(3, 42); // " + server.write(3, 42));
        played.add("server.request(); // " + server.request());
        int sent = server.pass(2);
        played.add("int sent = server.pass(2); // " + sent);
        int message = server.latest(subscription);
        played.add("int message = server.latest(subscription); // " + message);
        played.add("server.size(subscription, message); // " + server.size(subscription, message));
        played.add("server.valueAt(subscription, message, 1); // " + server.valueAt(subscription, message, 1));
        played.add("server.itemAt(subscription, message, 1); // " + server.itemAt(subscription, message, 1));
        played.add("server.isMarked(subscription, message, 1); // " + server.isMarked(subscription, message, 1));
        played.add("server.acknowledge(subscription, message); // " + server.acknowledge(subscription, message));
        return played;
    }
}
