import java.io.IOException;
import java.nio.charset.StandardCharsets;
import java.nio.file.Files;
import java.nio.file.Path;
import java.util.ArrayList;
import java.util.List;
import java.util.regex.Matcher;
import java.util.regex.Pattern;
import java.util.stream.Stream;
import javax.tools.JavaCompiler;
import javax.tools.ToolProvider;

/**
 * The calls that README.md shows: its examples are compiled as they stand there, but that each answer that stands
 * behind a call is compared with the one that comes.
 */
public final class ReadmeTest {
    private static final Path README = Path.of("README.md");
    /** A line that makes one call of a post: what the answer goes to, the call, the answer that README.md tells. */
    private static final Pattern CALL = Pattern.compile("(int \\w+ = )?(\\w+\\.\\w+\\(.*?\\));\\s*// (-?\\d+)(?::.*)?");
    private static final Pattern CALL_AT_ALL = Pattern.compile("(int \\w+ = )?\\w+\\.\\w+\\(.*");
    private static final Pattern MADE = Pattern.compile("TearPost \\w+ = new TearPost\\(\\);");
    private static final Checks CHECKS = new Checks();

    public static void main(String[] args) throws IOException, ReflectiveOperationException {
        String text = Files.readString(README);
        run(text);
        tells(text);
        testsAreNamed(text);
        CHECKS.close("ReadmeTest");
    }

    private static void so(String what, boolean is) {
        CHECKS.due(what, 1, is ? 1 : 0);
    }

    /** The generated program calls this for each answer. */
    public static int due(String call, int want, int got) {
        CHECKS.due("README.md's " + call, want, got);
        return got;
    }

    private static List<List<String>> examples(String text) {
        List<List<String>> blocks = new ArrayList<>();
        List<String> open = null;
        for (String line : text.split("\n")) {
            if (line.startsWith("```")) {
                open = line.equals("```java") ? new ArrayList<>() : null;
                if (open != null) {
                    blocks.add(open);
                }
            } else if (open != null) {
                open.add(line);
            }
        }
        return blocks;
    }

    private static void run(String text) throws IOException, ReflectiveOperationException {
        StringBuilder members = new StringBuilder();
        StringBuilder calls = new StringBuilder();
        int answers = 0;
        for (List<String> block : examples(text)) {
            boolean declares = block.stream().anyMatch(line -> line.startsWith("static "));
            for (String line : block) {
                Matcher call = CALL.matcher(line);
                boolean answered = !declares && call.matches();
                if (!declares && CALL_AT_ALL.matcher(line).matches()) {
                    so("an answer behind '" + line + "'", answered);
                    answers++;
                }
                (declares ? members : calls).append(answered ? compared(call) : line).append('\n');
            }
        }
        so("answers that README.md shows: " + answers, answers >= 30);
        so("a post is made in it", MADE.matcher(calls).find());
        runProgram("public final class ReadmeExamples {\n" + members + "public static void run() {\n" + calls + "}\n}\n");
    }

    private static String compared(Matcher call) {
        String into = call.group(1) == null ? "" : call.group(1);
        String name = call.group(2).replace("\\", "\\\\").replace("\"", "\\\"");
        return into + "ReadmeTest.due(\"" + name + "\", " + call.group(3) + ", " + call.group(2) + ");";
    }

    private static void runProgram(String program) throws IOException, ReflectiveOperationException {
        Path folder = Files.createTempDirectory("readme");
        Path file = folder.resolve("ReadmeExamples.java");
        try {
            Files.write(file, program.getBytes(StandardCharsets.UTF_8));
            JavaCompiler compiler = ToolProvider.getSystemJavaCompiler();
            so("there is a compiler", compiler != null);
            if (compiler == null) {
                return;
            }
            int answer = compiler.run(null, System.out, System.out, "-cp", System.getProperty("java.class.path"), "-d",
                    folder.toString(), file.toString());
            CHECKS.due("what javac answered to README.md's examples", 0, answer);
            if (answer == 0) {
                try (java.net.URLClassLoader loader = new java.net.URLClassLoader(new java.net.URL[] {folder.toUri().toURL()})) {
                    loader.loadClass("ReadmeExamples").getMethod("run").invoke(null);
                }
            }
        } finally {
            for (String name : new String[] {"ReadmeExamples.java", "ReadmeExamples.class"}) {
                Files.deleteIfExists(folder.resolve(name));
            }
            Files.deleteIfExists(folder);
        }
    }

    /** What README.md has to tell beside its examples. */
    private static void tells(String text) {
        so("how many calls an object may be used for", text.contains("512 calls"));
        so("the command that runs all tests", text.contains("```sh\n.ci/run\n```") && Files.isExecutable(Path.of(".ci/run")));
        for (String code : new String[] {"-1", "-2", "-3", "-5", "-6", "`NONE` (" + TearPost.NONE + ")",
            "`NOTHING` (" + TearPost.NOTHING + ")"}) {
            so("what " + code + " means", text.contains("\n| " + code + " | "));
        }
        for (String call : new String[] {"feed", "end", "law", "orders", "row"}) {
            so("an example of " + call + "()", Pattern.compile("\n\\w+\\." + call + "\\(.*// -?\\d").matcher(text).find());
        }
    }

    private static void testsAreNamed(String text) throws IOException {
        try (Stream<Path> files = Files.list(Path.of("src/test/java"))) {
            for (Path file : files.toList()) {
                String name = file.getFileName().toString().replace(".java", "");
                so(name + " is told of", !name.endsWith("Test") || text.contains("`" + name + "`"));
            }
        }
        Matcher named = Pattern.compile("`(\\w+Test)`").matcher(text);
        while (named.find()) {
            so("there is " + named.group(1), Files.exists(Path.of("src/test/java/" + named.group(1) + ".java")));
        }
    }
}
