import java.io.IOException;
import java.net.URL;
import java.net.URLClassLoader;
import java.nio.file.Files;
import java.nio.file.Path;
import java.util.ArrayList;
import java.util.List;
import java.util.Set;
import java.util.TreeSet;
import java.util.regex.Matcher;
import java.util.regex.Pattern;
import java.util.stream.Stream;
import javax.tools.JavaCompiler;
import javax.tools.ToolProvider;

/** What README.md says holds: its example compiles and answers as it tells, its tests and ways are those of .ci/run. */
public final class ReadmeTest {
    private static final Check CHECK = new Check();
    private static final Pattern LINE =
        Pattern.compile("(?:(\\w+ (\\w+)) = )?(.*);(?:\\s+// (-?\\d+|true|false): .*)?");

    public static void main(String[] args) throws Exception {
        String readme = Files.readString(Path.of("README.md"));
        example(readme);
        calls(readme);
        tests(readme);
        ways(readme);
        CHECK.end();
    }

    private static List<String> blocks(String readme, String language) {
        List<String> blocks = new ArrayList<>();
        Matcher block = Pattern.compile("```" + language + "\n(.*?)```", Pattern.DOTALL).matcher(readme);
        while (block.find()) {
            blocks.add(block.group(1));
        }
        return blocks;
    }

    private static void example(String readme) throws Exception {
        List<String> blocks = blocks(readme, "java");
        CHECK.due("examples", blocks.size(), 1);
        List<String> told = new ArrayList<>();
        List<String> calls = new ArrayList<>();
        StringBuilder asked = new StringBuilder();
        for (String line : blocks.get(0).split("\n")) {
            Matcher parts = LINE.matcher(line);
            if (line.isEmpty()) {
                continue;
            }
            CHECK.due("a line of the form of an example: " + line, parts.matches(), true);
            if (parts.group(4) == null) {
                CHECK.due("only the first line tells no answer", parts.group(3), "new LinenPool()");
                asked.append(line).append('\n');
            } else if (parts.group(2) != null) {
                asked.append(line).append('\n').append("answers.add(" + parts.group(2) + ");\n");
            } else {
                asked.append("answers.add(" + parts.group(3) + ");\n");
            }
            if (parts.group(4) != null) {
                calls.add(parts.group(3));
                told.add(parts.group(4));
            }
        }
        List<Object> answers = answers(blocks.get(0), asked.toString());
        CHECK.due("answers of the example", answers.size(), told.size());
        for (int i = 0; i < told.size(); i++) {
            CHECK.due("README.md: " + calls.get(i), String.valueOf(answers.get(i)), told.get(i));
        }
    }

    /** Compiles the example as it stands, and with each answer put down, which it gives back. */
    private static List<Object> answers(String example, String asked) throws Exception {
        String source = "public final class Example {\n"
            + "  public static void asItStands() {\n" + example + "  }\n"
            + "  public static java.util.List<Object> answers() {\n"
            + "    java.util.List<Object> answers = new java.util.ArrayList<>();\n" + asked + "    return answers;\n"
            + "  }\n}\n";
        Path folder = Files.createTempDirectory("readme");
        try {
            Path file = folder.resolve("Example.java");
            Files.writeString(file, source);
            JavaCompiler compiler = ToolProvider.getSystemJavaCompiler();
            int failed = compiler.run(null, null, null, "-cp", System.getProperty("java.class.path"), "-d",
                folder.toString(), file.toString());
            CHECK.due("the example does not compile", failed, 0);
            if (failed != 0) {
                return List.of();
            }
            try (URLClassLoader loader = new URLClassLoader(new URL[] {folder.toUri().toURL()})) {
                Class<?> compiled = loader.loadClass("Example");
                compiled.getMethod("asItStands").invoke(null);
                @SuppressWarnings("unchecked")
                List<Object> answers = (List<Object>) compiled.getMethod("answers").invoke(null);
                return answers;
            }
        } finally {
            empty(folder);
        }
    }

    private static void empty(Path folder) throws IOException {
        List<Path> files;
        try (Stream<Path> all = Files.list(folder)) {
            files = all.toList();
        }
        for (Path file : files) {
            Files.delete(file);
        }
        Files.delete(folder);
    }

    private static Set<String> all(Pattern pattern, String text) {
        Set<String> all = new TreeSet<>();
        Matcher matcher = pattern.matcher(text);
        while (matcher.find()) {
            all.add(matcher.group(1));
        }
        return all;
    }

    /** The table of calls has those of the document's face, all of them and no other. */
    private static void calls(String readme) throws IOException {
        String doc = Files.readString(Path.of("../shared/DOC.md"));
        Set<String> face = all(Pattern.compile("public (?:int|long|boolean) (\\w+)\\("), blocks(doc, "java").get(0));
        int from = readme.indexOf("| what for | calls |");
        String table = readme.substring(Math.max(0, from), readme.indexOf("\n\n", from));
        CHECK.due("calls that README.md names", all(Pattern.compile("`(\\w+)`"), table).toString(), face.toString());
    }

    private static void tests(String readme) throws IOException {
        Set<String> there = new TreeSet<>();
        try (Stream<Path> files = Files.list(Path.of("src/test/java"))) {
            for (Path file : files.toList()) {
                String name = file.getFileName().toString().replace(".java", "");
                if (name.endsWith("Test")) {
                    there.add(name);
                }
            }
        }
        Set<String> named = all(Pattern.compile("(?m)^\\| `(\\w+Test)` \\|"), readme);
        CHECK.due("tests that README.md names", named.toString(), there.toString());
    }

    /** The commands that README.md names are those of .ci/run, but for the names that stand in it for folders. */
    private static void ways(String readme) throws IOException {
        Path script = Path.of(".ci/run");
        String run = Files.readString(script);
        CHECK.due(".ci/run is executable", Files.isExecutable(script), true);
        CHECK.due(".ci/run runs the shared tests", run.contains("for file in ../shared/tests/*.java"), true);
        CHECK.due(".ci/run runs all tests", run.contains("for file in src/test/java/*Test.java"), true);
        List<String> blocks = blocks(readme, "sh");
        CHECK.due("ways to run the tests", blocks.size(), 2);
        CHECK.due("all of them", blocks.get(0), "bash .ci/run\n");
        String[] one = blocks.get(1).split("\n");
        CHECK.due("two commands", one.length, 2);
        String compiled = one[0].replace("OUT", "\"$out/own\"").replace("src/main/java/LinenPool.java", "\"$main\"");
        CHECK.due("how they're compiled: " + compiled, run.contains(compiled), true);
        String called = one[1].replace("OUT", "\"$2\"").replaceAll("\\w+Test", "\"\\$1\"");
        CHECK.due("how one is called: " + called, run.contains(called), true);
    }
}
