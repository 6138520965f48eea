import java.io.File;
import java.io.IOException;
import java.lang.reflect.Method;
import java.lang.reflect.Modifier;
import java.net.URL;
import java.net.URLClassLoader;
import java.nio.file.Files;
import java.nio.file.Path;
import java.util.ArrayList;
import java.util.Comparator;
import java.util.List;
import java.util.regex.Matcher;
import java.util.regex.Pattern;
import java.util.stream.Stream;
import javax.tools.ToolProvider;

/** What README.md says holds: its examples are compiled and run, and what it names is there. */
public final class ReadmeTest {
    private static final Path PAGE = Path.of("README.md");
    private static final Path TESTS = Path.of("src", "test", "java");
    /** A statement, and the answer that the page tells behind it. */
    private static final Pattern TOLD = Pattern.compile("(?:int (\\w+) = )?(.*);\\s*// (-?[0-9]+|true|false)(?:: .*)?");
    private static final Checks CHECKS = new Checks("readme");

    public static void main(String[] args) throws Exception {
        String page = Files.readString(PAGE);
        List<String> examples = blocks(page, "java");
        CHECKS.yes("there are examples", examples.size() >= 4);
        for (int k = 0; k < examples.size(); k++) {
            run("Example" + k, examples.get(k));
        }
        everyMethodIsShown(String.join("\n", examples));
        everyTestIsNamed(page);
        everyCommandWorks(page);
        CHECKS.name("readme");
        CHECKS.close();
    }

    private static List<String> blocks(String page, String kind) {
        List<String> found = new ArrayList<>();
        Matcher m = Pattern.compile("(?ms)^```" + kind + "\n(.*?)^```$").matcher(page);
        while (m.find()) {
            found.add(m.group(1));
        }
        return found;
    }

    private static void run(String name, String example) throws Exception {
        Path work = Files.createTempDirectory("readme");
        Path source = work.resolve(name + ".java");
        Files.writeString(source, program(name, example));
        String home = new File(SplitClocks.class.getProtectionDomain().getCodeSource().getLocation().toURI()).getPath();
        int failed = ToolProvider.getSystemJavaCompiler().run(null, null, null,
            "-proc:none", "-cp", home, "-d", work.toString(), source.toString());
        CHECKS.due(name + " compiles", failed, 0);
        if (failed == 0) {
            compare(name, work, example);
        }
        remove(work);
    }

    /** The example as a method that hands out each line's text with its answer and the one that is told. */
    private static String program(String name, String example) {
        StringBuilder s = new StringBuilder("import java.util.List;\npublic final class " + name + " {\n");
        s.append("    public static void run(List<Object[]> answers) {\n");
        for (String line : example.split("\n")) {
            Matcher m = TOLD.matcher(line.trim());
            if (!m.matches()) {
                s.append(line).append('\n');
                continue;
            }
            String answer = m.group(2);
            if (m.group(1) != null) {
                s.append("int ").append(m.group(1)).append(" = ").append(answer).append(";\n");
                answer = m.group(1);
            }
            s.append("answers.add(new Object[] {\"").append(m.group(2)).append("\", ").append(answer).append("});\n");
        }
        return s.append("    }\n}\n").toString();
    }

    private static void compare(String name, Path work, String example) throws Exception {
        List<String> told = new ArrayList<>();
        for (String line : example.split("\n")) {
            Matcher m = TOLD.matcher(line.trim());
            if (m.matches()) {
                told.add(m.group(3));
            }
        }
        List<Object[]> answers = new ArrayList<>();
        try (URLClassLoader loader = new URLClassLoader(new URL[] {work.toUri().toURL()}, ReadmeTest.class.getClassLoader())) {
            loader.loadClass(name).getMethod("run", List.class).invoke(null, answers);
        }
        CHECKS.yes(name + " tells answers", told.size() > 0);
        CHECKS.due(name + "'s answers", answers.size(), told.size());
        for (int k = 0; k < Math.min(answers.size(), told.size()); k++) {
            String got = String.valueOf(answers.get(k)[1]);
            CHECKS.yes(name + ": " + answers.get(k)[0] + " answers " + got + ", README.md tells " + told.get(k),
                got.equals(told.get(k)));
        }
    }

    private static void remove(Path work) throws IOException {
        try (Stream<Path> files = Files.walk(work)) {
            for (Path file : files.sorted(Comparator.reverseOrder()).toList()) {
                Files.delete(file);
            }
        }
    }

    private static void everyMethodIsShown(String examples) {
        for (Method m : SplitClocks.class.getDeclaredMethods()) {
            if (Modifier.isPublic(m.getModifiers())) {
                CHECKS.yes("an example of " + m.getName() + "()", examples.contains("." + m.getName() + "("));
            }
        }
    }

    private static void everyTestIsNamed(String page) throws IOException {
        try (Stream<Path> files = Files.list(TESTS)) {
            for (Path file : files.toList()) {
                String name = file.getFileName().toString().replace(".java", "");
                CHECKS.yes("README.md names " + name, page.contains("`" + name + "`"));
            }
        }
        Matcher m = Pattern.compile("`(\\w+(?:Test|Edges))`").matcher(page);
        while (m.find()) {
            CHECKS.yes(m.group(1) + " is there", Files.exists(TESTS.resolve(m.group(1) + ".java")));
        }
    }

    /** But for .ci/run itself, which runs this test. */
    private static void everyCommandWorks(String page) throws Exception {
        CHECKS.yes(".ci/run can be run", Files.isExecutable(Path.of(".ci", "run")));
        List<String> commands = blocks(page, "sh");
        CHECKS.yes("the page tells of .ci/run", commands.remove(".ci/run\n"));
        CHECKS.yes("there are other commands", commands.size() > 0);
        Path work = Files.createTempDirectory("readme");
        for (String command : commands) {
            String here = "set -e\n" + command.replaceAll("\\bout\\b", work.toString());
            Path told = work.resolve("told");
            Process p = new ProcessBuilder("bash", "-c", here).redirectErrorStream(true).redirectOutput(told.toFile()).start();
            int failed = p.waitFor();
            CHECKS.due(command + Files.readString(told), failed, 0);
        }
        remove(work);
    }
}
