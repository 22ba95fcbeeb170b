import java.io.PrintWriter;
import java.io.StringWriter;
import java.lang.reflect.Field;
import java.lang.reflect.Method;
import java.lang.reflect.Modifier;
import java.nio.file.Files;
import java.nio.file.Path;
import java.util.Arrays;
import java.util.List;
import java.util.TreeSet;
import java.util.regex.Matcher;
import java.util.regex.Pattern;
import java.util.spi.ToolProvider;

/** The document's face, and those rules of LANGUAGE.md that can be seen from the compiled class. */
public final class FaceTest {
    private static final Due due = new Due();
    private static final String FACE = "at(int,int) bits(int) brake(int,int,long) compare(int,int) "
            + "copy(int,int,boolean) count(int) drum(int,long) failed() lane(int) log(int,int) put(int,int,int) "
            + "rack(int,boolean,int) read(int,int,int) reckon(int,int,int,int) rest(int,int,int) "
            + "set(int,int,long) slow(int,int) spool(int,boolean) told(int,int) turn(int,int) "
            + "weight(int,int,boolean) whole(int,int) wind(int,int) write(int,int,int)";
    private static final List<String> LONGS = List.of("bits", "told", "whole");
    private static final Pattern BANNED =
            Pattern.compile("\\b(athrow|drem|frem|invokedynamic|monitorenter|Exception table)\\b");
    private static final Pattern MAKERS = Pattern.compile("(public |private )?RopeDrums(\\$\\w+)?\\(.*\\);|static \\{\\};"
            + "|private static RopeDrums\\$Form\\[\\] \\$values\\(\\);|public int spool\\(int, boolean\\);");
    private static final List<String> LIBRARY = List.of("java/lang/Object.\"<init>\"", "java/lang/Enum.\"<init>\"",
            "java/lang/Enum.valueOf", "java/lang/Math.max", "java/lang/Math.min", "java/lang/Math.abs",
            "java/util/Arrays.fill");

    public static void main(String[] args) throws Exception {
        members();
        inside();
        Path classes = Path.of(FaceTest.class.getProtectionDomain().getCodeSource().getLocation().toURI());
        code(classes);
        String program = Files.readString(Path.of(args[0], "src", "main", "java", "RopeDrums.java"));
        source(program);
        asTheDocumentWritesIt(program, Files.readString(Path.of(args[0], "..", "shared", "DOC.md")));
        due.end();
    }

    private static void members() {
        Class<?> c = RopeDrums.class;
        due.isTrue("public and final", Modifier.isPublic(c.getModifiers()) && Modifier.isFinal(c.getModifiers()));
        TreeSet<String> open = new TreeSet<>();
        TreeSet<String> names = new TreeSet<>();
        for (Method m : c.getDeclaredMethods()) {
            if (!Modifier.isPrivate(m.getModifiers())) {
                String params = Arrays.toString(m.getParameterTypes()).replaceAll("[\\[\\] ]", "");
                open.add(m.getName() + "(" + params + ")");
                names.add(m.getName());
                due.isTrue(m + " is plain", m.getModifiers() == Modifier.PUBLIC);
                due.isTrue(m + " answers", m.getReturnType() == (LONGS.contains(m.getName()) ? long.class : int.class));
            }
        }
        due.isTrue("the methods are " + open, String.join(" ", open).equals(FACE));
        for (Method m : c.getDeclaredMethods()) {
            due.isTrue(m + " bears a name of its own",
                    !Modifier.isPrivate(m.getModifiers()) || !names.contains(m.getName()));
            due.isTrue(m + " takes few", m.getParameterCount() <= 7);
        }
        due.is("constructors", c.getDeclaredConstructors().length, 1);
        due.is("its parameters", c.getConstructors()[0].getParameterCount(), 0);
        TreeSet<String> constants = new TreeSet<>();
        for (Field f : c.getDeclaredFields()) {
            if (!Modifier.isPrivate(f.getModifiers())) {
                constants.add(f.getName());
            }
        }
        due.isTrue("the constants are " + constants, constants.toString().equals("[FULL, NONE, OUTSIDE, UNKNOWN]"));
        due.is("NONE", RopeDrums.NONE, -1);
        due.is("UNKNOWN", RopeDrums.UNKNOWN, -1001);
        due.is("OUTSIDE", RopeDrums.OUTSIDE, -1002);
        due.is("FULL", RopeDrums.FULL, -1003);
    }

    private static void inside() {
        Class<?>[] nested = RopeDrums.class.getDeclaredClasses();
        due.isTrue("few classes", nested.length <= 11);
        for (Class<?> c : nested) {
            due.isTrue(c + " is static", Modifier.isStatic(c.getModifiers()));
            due.isTrue(c + " is not open", (c.getModifiers() & (Modifier.PUBLIC | Modifier.PROTECTED)) == 0);
            fields(c);
        }
        fields(RopeDrums.class);
    }

    private static void fields(Class<?> c) {
        int own = 0;
        for (Field f : c.getDeclaredFields()) {
            if (!Modifier.isStatic(f.getModifiers())) {
                own++;
            } else if (!f.isSynthetic() && !f.isEnumConstant()) {
                due.isTrue(f + " is a constant", Modifier.isFinal(f.getModifiers()) && f.getType() == int.class);
            }
        }
        due.isTrue(c + " has few fields", own <= 20);
    }

    /** What the machine would do: no exception, no lambda, no remainder of doubles, no other library. */
    private static void code(Path classes) throws Exception {
        try (var files = Files.list(classes)) {
            for (Path file : files.filter(FaceTest::isOfTheProgram).toList()) {
                String text = told(file);
                due.isTrue(file + " was read", text.contains("Code:"));
                makesLittle(text);
                Matcher banned = BANNED.matcher(text);
                while (banned.find()) {
                    due.isTrue(file + " has no " + banned.group(), false);
                }
                Matcher called = Pattern.compile("Method (java/[\\w/]+\\.[\\w\"<>]+)").matcher(text);
                while (called.find()) {
                    due.isTrue(called.group(1) + " may be called", LIBRARY.contains(called.group(1)));
                }
            }
        }
    }

    /** All calls live in one room: a call makes nothing, but for spool(), of which 30 at most are kept. */
    private static void makesLittle(String text) {
        String method = "";
        for (String line : text.split("\n")) {
            if (line.matches(" {2}\\S.*;")) {
                method = line.strip();
            }
            if (line.matches("\\s+\\d+: (new|newarray|anewarray|multianewarray)\\b.*")) {
                due.isTrue(method + " may make something:" + line, MAKERS.matcher(method).matches());
            }
        }
    }

    private static boolean isOfTheProgram(Path file) {
        return file.getFileName().toString().matches("RopeDrums(\\$.*)?\\.class");
    }

    private static String told(Path file) {
        StringWriter out = new StringWriter();
        PrintWriter writer = new PrintWriter(out);
        ToolProvider.findFirst("javap").orElseThrow().run(writer, writer, "-c", "-p", file.toString());
        return out.toString();
    }

    private static void source(String text) {
        String[] banned = {"try", "catch", "throw", "synchronized", "assert", "Double.", "Float.", "package", "->", "::"};
        String code = text.replaceAll("(?s)/\\*.*?\\*/", "").replaceAll("//.*", "");
        for (String word : banned) {
            String pattern = Character.isLetter(word.charAt(0)) ? "\\b" + Pattern.quote(word) : Pattern.quote(word);
            due.isTrue("no " + word, !Pattern.compile(pattern).matcher(code).find());
        }
    }

    /** To the letter, parameters' names too, and no public line beside it. */
    private static void asTheDocumentWritesIt(String program, String document) {
        int from = document.indexOf("```java\n");
        int to = document.indexOf("```", from + 3);
        due.isTrue("the document has the face", from >= 0 && to > from);
        List<String> written = publicLines(document.substring(Math.max(from, 0), Math.max(to, 0)));
        List<String> held = publicLines(program);
        due.is("public lines", held.size(), written.size());
        due.isTrue("the face is " + held + ", due is " + written, held.equals(written));
    }

    private static List<String> publicLines(String text) {
        return text.lines().map(String::strip).filter(line -> line.startsWith("public "))
                .map(line -> line.replaceAll("\\s*[;{]$", "")).toList();
    }
}
