import java.io.IOException;
import java.nio.file.Files;
import java.nio.file.Path;
import java.util.List;
import java.util.regex.Matcher;
import java.util.regex.Pattern;
import javax.tools.ToolProvider;

/**
 * README.md's examples: they are compiled and run as they stand there, but for calls that are
 * followed by answers in a comment, which are compared with these.
 */
public final class ReadmeTest {
    private static final Pattern BLOCK = Pattern.compile("(?s)```java\n(.*?)```");
    private static final Pattern CALL = Pattern.compile("(abbey\\.\\w+\\(.*?\\)); +// ([-0-9, ]+)");
    private static final int FEWEST_CALLS = 18;

    private static final String BEGINNING = """
            public class Example {
                static int wrong;
                static int[] times = new int[100];

                static void due(int place, String call, int got, int... answers) {
                    int want = answers[Math.min(times[place]++, answers.length - 1)];
                    if (got != want) {
                        wrong++;
                        System.out.println(call + " answered " + got + ", README.md says " + want);
                    }
                }

                public static void main(String[] args) {
            """;
    private static final String END = """
                    System.out.println(wrong == 0 ? "all answers are as due" : wrong + " answers are not as due");
                    System.exit(wrong == 0 ? 0 : 1);
                }
            }
            """;

    public static void main(String[] args) throws Exception {
        Path main = Path.of(args[0]).toAbsolutePath();
        Path readme = main.resolve("../../../../README.md").normalize();
        Path dir = Files.createTempDirectory("readme");
        Path example = dir.resolve("Example.java");
        Files.writeString(example, BEGINNING + examples(Files.readString(readme)) + END);
        int code = ToolProvider.getSystemJavaCompiler().run(null, null, null,
                "-d", dir.toString(), main.toString(), example.toString());
        if (code == 0) {
            String java = Path.of(System.getProperty("java.home"), "bin", "java").toString();
            code = new ProcessBuilder(java, "-cp", dir.toString(), "Example").inheritIO().start().waitFor();
        }
        remove(dir);
        System.exit(code);
    }

    private static String examples(String readme) {
        StringBuilder code = new StringBuilder();
        Matcher block = BLOCK.matcher(readme);
        while (block.find()) {
            code.append(block.group(1));
        }
        StringBuilder compared = new StringBuilder();
        Matcher call = CALL.matcher(code);
        int calls = 0;
        while (call.find()) {
            List<String> words = List.of("due(" + calls, "\"" + call.group(1) + "\"", call.group(1), call.group(2));
            call.appendReplacement(compared, Matcher.quoteReplacement(String.join(", ", words) + "); // "));
            calls++;
        }
        call.appendTail(compared);
        if (calls < FEWEST_CALLS) {
            compared.append("wrong++; // some examples were not understood\n");
        }
        return compared.toString();
    }

    private static void remove(Path dir) throws IOException {
        for (String file : dir.toFile().list()) {
            Files.delete(dir.resolve(file));
        }
        Files.delete(dir);
    }
}
