import java.io.IOException;
import java.nio.file.Files;
import java.nio.file.Path;
import java.util.ArrayList;
import java.util.List;
import java.util.regex.Matcher;
import java.util.regex.Pattern;
import java.util.stream.Stream;

/** What README.md says is tried: its calls answer what stands beside them, and it names each test. */
public final class ReadmeTest {
    private static final Path README = Path.of("README.md");
    private static final Path TESTS = Path.of("src/test/java");
    private static final Pattern EXAMPLE = Pattern.compile("```java\n(.*?)```", Pattern.DOTALL);
    private static final Pattern CALL =
            Pattern.compile("(int \\w+ = )?(shelves\\.\\w+\\(.*\\)); +// (-?\\d+|NONE|true|false)\\b.*");
    private static final Pattern TEST_NAMED = Pattern.compile("- `(\\w+Test)`:");
    private static final Pattern FACE_METHOD = Pattern.compile("shelves\\.(\\w+)\\(");

    private final Due due = new Due("ReadmeTest");
    private final String readme;

    private ReadmeTest() throws IOException {
        readme = Files.readString(README);
    }

    public static void main(String[] args) throws IOException, InterruptedException {
        ReadmeTest test = new ReadmeTest();
        test.theExampleAnswersAsTold();
        test.theExampleUsesTheWholeFace();
        test.eachTestIsNamed();
        test.due.end();
    }

    private String example() {
        Matcher found = EXAMPLE.matcher(readme);
        return found.find() ? found.group(1) : "";
    }

    /** The example is made a program of its own, as a reader would, and prints what each call answers. */
    private void theExampleAnswersAsTold() throws IOException, InterruptedException {
        due.at("the example");
        StringBuilder program = new StringBuilder("public class Example { public static void main(String[] args) {\n");
        List<String> calls = new ArrayList<>();
        List<String> want = new ArrayList<>();
        for (String line : example().split("\n")) {
            Matcher call = CALL.matcher(line);
            boolean isCall = call.matches();
            boolean isOther = line.isBlank() || line.startsWith("//") || line.startsWith("PartShelves shelves = ");
            due.is("\"" + line + "\" has its answer beside it", isCall || isOther, true);
            program.append(isCall ? printing(call) : line).append('\n');
            if (isCall) {
                calls.add(call.group(2));
                want.add(call.group(3).equals("NONE") ? "-1" : call.group(3));
            }
        }
        List<String> got = run(program.append("} }\n").toString());
        due.is("how many answers", got.size(), want.size());
        for (int i = 0; i < Math.min(got.size(), want.size()); i++) {
            due.is(calls.get(i) + " is told as " + want.get(i) + ", it is " + got.get(i),
                    got.get(i).equals(want.get(i)), true);
        }
    }

    private static String printing(Matcher call) {
        String kept = call.group(1);
        if (kept == null) {
            return "System.out.println(" + call.group(2) + ");";
        }
        String name = kept.substring("int ".length(), kept.length() - " = ".length());
        return kept + call.group(2) + "; System.out.println(" + name + ");";
    }

    private static List<String> run(String program) throws IOException, InterruptedException {
        Path directory = Files.createTempDirectory("readme");
        Path source = directory.resolve("Example.java");
        try {
            Files.writeString(source, program);
            String java = Path.of(System.getProperty("java.home"), "bin", "java").toString();
            Process process = new ProcessBuilder(java, "-cp", System.getProperty("java.class.path"), source.toString())
                    .redirectError(ProcessBuilder.Redirect.INHERIT).start();
            String printed = new String(process.getInputStream().readAllBytes());
            process.waitFor();
            return printed.lines().toList();
        } finally {
            Files.deleteIfExists(source);
            Files.deleteIfExists(directory);
        }
    }

    private void theExampleUsesTheWholeFace() {
        due.at("the example");
        List<String> used = all(FACE_METHOD, example());
        for (var method : PartShelves.class.getMethods()) {
            if (method.getDeclaringClass() == PartShelves.class) {
                due.is("a use of " + method.getName(), used.contains(method.getName()), true);
            }
        }
    }

    private void eachTestIsNamed() throws IOException {
        due.at("the tests");
        List<String> named = all(TEST_NAMED, readme);
        try (Stream<Path> files = Files.list(TESTS)) {
            for (String file : files.map(path -> path.getFileName().toString()).toList()) {
                if (file.endsWith("Test.java")) {
                    String test = file.substring(0, file.length() - ".java".length());
                    due.is("README.md names " + test, named.remove(test), true);
                }
            }
        }
        due.is("tests that are not there: " + named, named.size(), 0);
    }

    private static List<String> all(Pattern pattern, String text) {
        List<String> found = new ArrayList<>();
        Matcher matcher = pattern.matcher(text);
        while (matcher.find()) {
            found.add(matcher.group(1));
        }
        return found;
    }
}
