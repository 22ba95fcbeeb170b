import java.io.PrintWriter;
import java.io.StringWriter;
import java.lang.reflect.Method;
import java.lang.reflect.Modifier;
import java.net.URL;
import java.net.URLClassLoader;
import java.nio.file.Files;
import java.nio.file.Path;
import java.util.ArrayList;
import java.util.List;
import java.util.regex.Matcher;
import java.util.regex.Pattern;
import java.util.spi.ToolProvider;

/** README.md: what it shows of calls and answers is so, and it leaves no method and no test out. */
public final class ReadmeTest {
    private static final Due due = new Due();
    private static final Pattern BLOCK = Pattern.compile("(?s)```java\n(.*?)```");
    /** A call, and behind it the answer, with or without words. */
    private static final Pattern SHOWN = Pattern.compile("(\\S.*\\));\\s+// ([-.\\w]+)(: .*)?");

    public static void main(String[] args) throws Exception {
        Path root = Path.of(args[0]);
        String readme = Files.readString(root.resolve("README.md"));
        answersAreSo(readme);
        showsEveryMethod(readme);
        namesEveryTest(root, readme);
        due.isTrue(".ci/run is told", readme.contains("    .ci/run\n"));
        due.isTrue(".ci/run may be run", Files.isExecutable(root.resolve(".ci/run")));
        due.end();
    }

    private static void answersAreSo(String readme) throws Exception {
        List<String> calls = new ArrayList<>();
        List<String> want = new ArrayList<>();
        StringBuilder code = new StringBuilder();
        Matcher block = BLOCK.matcher(readme);
        while (block.find()) {
            code.append("{\n");
            for (String line : block.group(1).split("\n")) {
                code.append(asked(line, calls, want)).append('\n');
            }
            code.append("}\n");
        }
        List<String> got = answers(code.toString());
        due.isTrue("it shows calls", !want.isEmpty());
        due.is("how many answers", got.size(), want.size());
        for (int i = 0; i < Math.min(got.size(), want.size()); i++) {
            due.isTrue("README.md: " + calls.get(i) + " answers " + got.get(i) + ", not " + want.get(i),
                    got.get(i).equals(want.get(i)));
        }
    }

    private static String asked(String line, List<String> calls, List<String> want) {
        Matcher shown = SHOWN.matcher(line);
        if (!shown.matches()) {
            due.isTrue("README.md: " + line + " has its answer", line.equals("RopeDrums x = new RopeDrums();"));
            return line;
        }
        calls.add(shown.group(1));
        want.add(shown.group(2));
        return "answers.add(String.valueOf(" + shown.group(1) + "));";
    }

    /** Compiled as it stands in README.md, by who follows it, and run. */
    private static List<String> answers(String code) throws Exception {
        Path folder = Files.createTempDirectory("readme");
        Path file = folder.resolve("Shown.java");
        Files.writeString(file, "public final class Shown {\n"
                + "public static void run(java.util.List<String> answers) {\n" + code + "}\n}\n");
        StringWriter said = new StringWriter();
        PrintWriter out = new PrintWriter(said);
        int exit = ToolProvider.findFirst("javac").orElseThrow().run(out, out, "--release", "17",
                "-cp", System.getProperty("java.class.path"), "-d", folder.toString(), file.toString());
        due.isTrue("README.md compiles: " + said, exit == 0);
        List<String> answers = new ArrayList<>();
        if (exit == 0) {
            try (URLClassLoader loader = new URLClassLoader(new URL[] {folder.toUri().toURL()})) {
                loader.loadClass("Shown").getMethod("run", List.class).invoke(null, answers);
            }
        }
        for (String name : new String[] {"Shown.java", "Shown.class"}) {
            Files.deleteIfExists(folder.resolve(name));
        }
        Files.delete(folder);
        return answers;
    }

    private static void showsEveryMethod(String readme) {
        for (Method method : RopeDrums.class.getDeclaredMethods()) {
            if (Modifier.isPublic(method.getModifiers())) {
                due.isTrue("README.md shows " + method.getName(), readme.contains("x." + method.getName() + "("));
            }
        }
    }

    private static void namesEveryTest(Path root, String readme) throws Exception {
        due.isTrue("the promises' tests are told", readme.contains("| Promise01Test .. Promise25Test |"));
        try (var files = Files.list(root.resolve("src/test/java"))) {
            for (Path file : files.toList()) {
                String name = file.getFileName().toString().replace(".java", "");
                if (name.endsWith("Test") && !name.matches("Promise\\d\\dTest")) {
                    due.isTrue("README.md tells of " + name, readme.contains("| " + name + " |"));
                }
            }
        }
    }
}
