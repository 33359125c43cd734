import java.io.ByteArrayOutputStream;
import java.io.File;
import java.net.URL;
import java.net.URLClassLoader;
import java.nio.charset.StandardCharsets;
import java.nio.file.Files;
import java.nio.file.Path;
import java.util.ArrayList;
import java.util.Comparator;
import java.util.List;
import java.util.TreeSet;
import java.util.regex.Matcher;
import java.util.regex.Pattern;
import java.util.stream.Stream;
import javax.tools.ToolProvider;

/** Makes a class of the examples of README.md, as they stand there, and looks whether they answer as they say. */
final class ReadmeTests {
    private static final List<String> PROMISES = List.of("OldNews", "row", "set", "copy", "drop", "feed", "land", "fault", "value", "go",
        "tell", "keeper", "piece", "alone", "best", "two", "think", "lostUse", "silence", "corner", "make", "fit", "laws", "image",
        "restore", "kind", "as", "ask", "trace", "count", "status");
    private static final Pattern CALL = Pattern.compile("((?:x\\.)?(\\w+)\\(.*\\)); *// (-?\\d+|BAD|STATE|FULL|NONE)(:.*)?");

    private final List<String> shown = new ArrayList<>();
    private final List<Integer> promises = new ArrayList<>();
    private final StringBuilder answers = new StringBuilder();
    private final StringBuilder helpers = new StringBuilder();
    private final StringBuilder calls = new StringBuilder();

    private ReadmeTests() {
    }

    static void run(String readme) throws Exception {
        ReadmeTests tests = new ReadmeTests();
        tests.readBlocks(Files.readAllLines(Path.of(readme)));
        TreeSet<Integer> named = new TreeSet<>(tests.promises);
        for (int i = 1; i < PROMISES.size(); i++) {
            Check.due(i + 1, "README.md shows " + PROMISES.get(i), named.contains(i + 1) ? 1 : 0, 1);
        }
        Path place = Files.createTempDirectory("readme");
        try {
            tests.compare(place);
        } finally {
            remove(place);
        }
    }

    private void readBlocks(List<String> lines) {
        boolean isInside = false;
        StringBuilder to = calls;
        for (int i = 0; i < lines.size(); i++) {
            String line = lines.get(i);
            if (line.startsWith("```")) {
                isInside = line.equals("```java");
                to = isInside && lines.get(i + 1).startsWith("static") ? helpers : calls;
            } else if (isInside && to == helpers) {
                helpers.append(line).append('\n');
            } else if (isInside) {
                readLine(i + 1, line);
            }
        }
    }

    private void readLine(int number, String line) {
        Matcher call = CALL.matcher(line);
        if (call.matches()) {
            String answer = call.group(3);
            calls.append("got[").append(shown.size()).append("] = ").append(call.group(1)).append(";\n");
            answers.append(Character.isLetter(answer.charAt(0)) ? "OldNews." + answer : answer).append(", ");
            shown.add("README.md line " + number + ": " + call.group(1));
            promises.add(PROMISES.indexOf(call.group(2)) + 1);
        } else {
            Check.due(0, "README.md line " + number + " says its answer", line.startsWith("OldNews x = new") || line.isEmpty() ? 1 : 0, 1);
            calls.append(line).append('\n');
        }
    }

    private void compare(Path place) throws Exception {
        Path file = place.resolve("ReadmeExamples.java");
        Files.writeString(file, "public final class ReadmeExamples {\n" + helpers + "public static int[] due() {\nreturn new int[] {" + answers
            + "};\n}\npublic static int[] got() {\nint[] got = new int[" + shown.size() + "];\n" + calls + "return got;\n}\n}\n");
        ByteArrayOutputStream said = new ByteArrayOutputStream();
        String path = System.getProperty("java.class.path");
        int failed = ToolProvider.getSystemJavaCompiler().run(null, said, said, "-proc:none", "-cp", path, "-d", place.toString(), file.toString());
        Check.due(0, "README.md is compiled " + said.toString(StandardCharsets.UTF_8), failed, 0);
        if (failed != 0) {
            return;
        }
        try (URLClassLoader loader = new URLClassLoader(new URL[] {place.toUri().toURL()}, ReadmeTests.class.getClassLoader())) {
            Class<?> examples = loader.loadClass("ReadmeExamples");
            int[] got = (int[]) examples.getMethod("got").invoke(null);
            int[] due = (int[]) examples.getMethod("due").invoke(null);
            for (int i = 0; i < due.length; i++) {
                Check.due(promises.get(i), shown.get(i), got[i], due[i]);
            }
        }
    }

    private static void remove(Path place) throws Exception {
        try (Stream<Path> files = Files.walk(place)) {
            files.sorted(Comparator.reverseOrder()).map(Path::toFile).forEach(File::delete);
        }
    }
}
