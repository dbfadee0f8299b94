import java.io.IOException;
import java.lang.reflect.Method;
import java.lang.reflect.Modifier;
import java.nio.file.Files;
import java.nio.file.Path;
import java.util.List;
import java.util.Set;
import java.util.TreeSet;
import java.util.stream.Stream;

/** What README.md says: its example answers what stands behind each call, and it names every call and every test. */
final class ReadmeTest {
    private static final String CALL = "machine.";

    public static void main(String[] args) throws IOException {
        List<String> lines = Files.readAllLines(Path.of("README.md"));
        List<String> steps = lines.stream().filter(line -> line.startsWith(CALL)).map(ReadmeTest::step).toList();
        Run.of("README.md: the example", String.join("\n", steps));

        String text = String.join("\n", lines);
        Probe probe = new Probe("README.md");
        probe.compare("has an example", "true", String.valueOf(!steps.isEmpty()));
        for (String name : calls()) {
            probe.compare("tells the call " + name, "true", String.valueOf(text.contains("`" + name + "(")));
        }
        for (String name : tests()) {
            probe.compare("tells the test " + name, "true", String.valueOf(text.contains("`" + name + "`")));
        }
        Probe.end();
    }

    /** A line of the example as {@link Run} reads it: what is due stands behind the slashes, up to a colon. */
    private static String step(String line) {
        String call = line.substring(CALL.length(), line.indexOf(';'));
        String due = line.substring(line.indexOf("// ") + 3).split(":")[0];
        return call + (due.startsWith("throws ") ? " " : " = ") + due;
    }

    private static Set<String> calls() {
        Set<String> names = new TreeSet<>();
        for (Method method : CashMachine.class.getDeclaredMethods()) {
            if (Modifier.isPublic(method.getModifiers())) {
                names.add(method.getName());
            }
        }
        return names;
    }

    private static List<String> tests() throws IOException {
        try (Stream<Path> files = Files.list(Path.of("src/test/java"))) {
            return files.map(file -> file.getFileName().toString()).filter(name -> name.endsWith("Test.java"))
                    .map(name -> name.replace(".java", "")).sorted().toList();
        }
    }
}
