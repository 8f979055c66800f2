import java.net.URL;
import java.net.URLClassLoader;
import java.nio.file.Files;
import java.nio.file.Path;
import java.util.ArrayList;
import java.util.List;
import java.util.regex.Matcher;
import java.util.regex.Pattern;
import javax.tools.JavaCompiler;
import javax.tools.ToolProvider;

/** The example of README.md is Java as it stands, and each of its calls answers what is written behind it. */
public final class ReadmeTest {
    private static final Check CHECK = new Check("ReadmeTest");
    private static final Pattern BLOCK = Pattern.compile("(?s)```java\n(.*?)```");
    private static final Pattern TOLD_CALL = Pattern.compile("(x\\.\\w+\\([^)]*\\)); *// (-?\\d+): .*");
    private static final int LEAST_CALLS = 30;

    private final List<String> calls = new ArrayList<>();
    private final List<Long> answersDue = new ArrayList<>();

    /** The example's parts as one class, whose method hands out the answers of all calls that have one behind them. */
    private String classOf(String readme) {
        StringBuilder body = new StringBuilder();
        Matcher blocks = BLOCK.matcher(readme);
        while (blocks.find()) {
            for (String line : blocks.group(1).split("\n")) {
                body.append(kept(line)).append('\n');
            }
        }
        return "public final class ReadmeExample { public static long[] answers() { long[] row = new long["
            + calls.size() + "]; int n = 0;\n" + body + "return row; } }\n";
    }

    private String kept(String line) {
        Matcher told = TOLD_CALL.matcher(line);
        if (!told.matches()) {
            // a call at the margin whose answer is not written would be looked at by nobody
            CHECK.due("an answer behind " + line, line.startsWith("x.") ? 0 : 1, 1);
            return line;
        }
        calls.add(told.group(1));
        answersDue.add(Long.parseLong(told.group(2)));
        return "row[n++] = " + told.group(1) + ";";
    }

    private void compare(long[] answers) {
        for (int i = 0; i < answers.length; i++) {
            CHECK.due(calls.get(i), answers[i], answersDue.get(i));
        }
    }

    private void run(String readme, Path dir) throws Exception {
        Path file = dir.resolve("ReadmeExample.java");
        Files.writeString(file, classOf(readme));
        CHECK.due("at least " + LEAST_CALLS + " calls in the example", calls.size() >= LEAST_CALLS ? 1 : 0, 1);
        JavaCompiler compiler = ToolProvider.getSystemJavaCompiler();
        String classes = System.getProperty("java.class.path");
        int status = compiler.run(null, null, null, "-cp", classes, "-d", dir.toString(), file.toString());
        CHECK.due("compiling the example", status, 0);
        if (status == 0) {
            try (URLClassLoader loader = new URLClassLoader(new URL[] {dir.toUri().toURL()})) {
                compare((long[]) loader.loadClass("ReadmeExample").getMethod("answers").invoke(null));
            }
        }
    }

    public static void main(String[] args) throws Exception {
        Path dir = Files.createTempDirectory("readme");
        try {
            new ReadmeTest().run(Files.readString(Path.of(System.getProperty("tepid.readme", "README.md"))), dir);
        } finally {
            Files.deleteIfExists(dir.resolve("ReadmeExample.java"));
            Files.deleteIfExists(dir.resolve("ReadmeExample.class"));
            Files.deleteIfExists(dir);
        }
        CHECK.finish();
    }
}
