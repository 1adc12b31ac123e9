import java.io.IOException;
import java.net.URL;
import java.net.URLClassLoader;
import java.nio.file.Files;
import java.nio.file.Path;
import java.util.ArrayList;
import java.util.List;
import java.util.regex.Matcher;
import java.util.regex.Pattern;

/** README.md's run of calls is Java that compiles, and each call answers what stands behind it there. */
public final class ReadmeTest {
    private static final Pattern BLOCK = Pattern.compile("(?s)```java\n(.*?)```");
    private static final Pattern ANSWERED = Pattern.compile("(x\\.\\w+\\([^;]*\\));\\s*// (-?\\d+)(:.*)?");
    private static final String MADE = "ReadmeRun";

    private static final List<String> CALLS = new ArrayList<>();
    private static final List<Long> DUE = new ArrayList<>();

    public static void main(String[] args) throws Exception {
        Matcher block = BLOCK.matcher(Files.readString(Path.of("README.md")));
        Check.due("README.md has a run of calls", block.find() ? 1 : 0, 1);
        long[] got = answers(program(block.group(1)));
        Check.due("answers", got.length, DUE.size());
        Check.due("a run of some length", got.length >= 10 ? 1 : 0, 1);
        for (int i = 0; i < got.length; i++) {
            Check.due("README.md: " + CALLS.get(i), got[i], DUE.get(i));
        }
        Check.end();
    }

    /** The block as a class of its own, whose run() answers what the calls with an answer behind them do. */
    private static String program(String block) {
        StringBuilder body = new StringBuilder();
        for (String line : block.split("\n")) {
            Matcher call = ANSWERED.matcher(line);
            if (call.matches()) {
                body.append("got[").append(CALLS.size()).append("] = ").append(call.group(1)).append(";\n");
                CALLS.add(call.group(1));
                DUE.add(Long.parseLong(call.group(2)));
            } else {
                // Only a call within a loop may stand without its answer.
                Check.due("an answer behind " + line, line.startsWith("x.") ? 1 : 0, 0);
                body.append(line).append('\n');
            }
        }
        return "public final class " + MADE + " { public static long[] run() {\nlong[] got = new long[" + CALLS.size()
            + "];\n" + body + "return got; } }\n";
    }

    private static long[] answers(String program) throws Exception {
        Path folder = Files.createTempDirectory("readme");
        Path source = folder.resolve(MADE + ".java");
        Path compiled = folder.resolve(MADE + ".class");
        try {
            Files.writeString(source, program);
            compile(source, folder);
            try (URLClassLoader loader = new URLClassLoader(new URL[] {folder.toUri().toURL()})) {
                return (long[]) loader.loadClass(MADE).getMethod("run").invoke(null);
            }
        } finally {
            Files.deleteIfExists(compiled);
            Files.deleteIfExists(source);
            Files.deleteIfExists(folder);
        }
    }

    private static void compile(Path source, Path folder) throws IOException, InterruptedException {
        String path = System.getProperty("java.class.path");
        ProcessBuilder javac = new ProcessBuilder("javac", "--release", "17", "-cp", path, "-d", folder.toString(),
            source.toString());
        int code = javac.inheritIO().start().waitFor();
        if (code != 0) {
            throw new IllegalStateException("README.md's run of calls does not compile");
        }
    }
}
