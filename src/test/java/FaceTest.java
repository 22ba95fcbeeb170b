import java.io.PrintWriter;
import java.io.StringWriter;
import java.lang.reflect.Field;
import java.lang.reflect.Method;
import java.lang.reflect.Modifier;
import java.nio.file.Files;
import java.nio.file.Path;
import java.util.Arrays;
import java.util.List;
import java.util.TreeSet;
import java.util.regex.Matcher;
import java.util.regex.Pattern;
import java.util.spi.ToolProvider;

/** The document's face, and those rules of LANGUAGE.md that can be seen from the compiled class. */
public final class FaceTest {
    private static final Due due = new Due();
    private static final String FACE = "at(int,int) bits(int) brake(int,int,long) compare(int,int) "
            + "copy(int,int,boolean) count(int) drum(int,long) failed() lane(int) log(int,int) put(int,int,int) "
            + "rack(int,boolean,int) read(int,int,int) reckon(int,int,int,int) rest(int,int,int) "
            + "set(int,int,long) slow(int,int) spool(int,boolean) told(int,int) turn(int,int) "
            + "weight(int,int,boolean) whole(int,int) wind(int,int) write(int,int,int)";
    private static final List<String> LONGS = List.of("bits", "told", "whole");
    private static final Pattern BANNED =
            Pattern.compile("\\b(athrow|drem|frem|invokedynamic|monitorenter|Exception table)\\b");
    private static final List<String> LIBRARY = List.of("java/lang/Object.\"<init>\"", "java/lang/Enum.\"<init>\"",
            "java/lang/Enum.valueOf", "java/lang/Math.max", "java/lang/Math.min", "java/lang/Math.abs",
            "java/util/Arrays.fill");

    public static void main(String[] args) throws Exception {
        members();
        inside();
        Path classes = Path.of(FaceTest.class.getProtectionDomain().getCodeSource().getLocation().toURI());
        code(classes);
        if (args.length > 0) {
            source(Files.readString(Path.of(args[0], "src", "main", "java", "RopeDrums.java")));
        }
        due.end();
    }

    private static void members() {
        Class<?> c = RopeDrums.class;
        due.isTrue("public and final", Modifier.isPublic(c.getModifiers()) && Modifier.isFinal(c.getModifiers()));
        TreeSet<String> open = new TreeSet<>();
        TreeSet<String> names = new TreeSet<>();
        for (Method m : c.getDeclaredMethods()) {
            if (!Modifier.isPrivate(m.getModifiers())) {
                String params = Arrays.toString(m.getParameterTypes()).replaceAll("[\\[\\] ]", "");
                open.add(m.getName() + "(" + params + ")");
                names.add(m.getName());
                due.isTrue(m + " is plain", m.getModifiers() == Modifier.PUBLIC);
                due.isTrue(m + " answers", m.getReturnType() == (LONGS.contains(m.getName()) ? long.class : int.class));
            }
        }
        due.isTrue("the methods are " + open, String.join(" ", open).equals(FACE));
        for (Method m : c.getDeclaredMethods()) {
            due.isTrue(m + " bears a name of its own",
                    !Modifier.isPrivate(m.getModifiers()) || !names.contains(m.getName()));
            due.isTrue(m + " takes few", m.getParameterCount() <= 7);
        }
        due.is("constructors", c.getDeclaredConstructors().length, 1);
        due.is("its parameters", c.getConstructors()[0].getParameterCount(), 0);
        TreeSet<String> constants = new TreeSet<>();
        for (Field f : c.getDeclaredFields()) {
            if (!Modifier.isPrivate(f.getModifiers())) {
                constants.add(f.getName());
            }
        }
        due.isTrue("the constants are " + constants, constants.toString().equals("[FULL, NONE, OUTSIDE, UNKNOWN]"));
        due.is("NONE", RopeDrums.NONE, -1);
        due.is("UNKNOWN", RopeDrums.UNKNOWN, -1001);
        due.is("OUTSIDE", RopeDrums.OUTSIDE, -1002);
        due.is("FULL", RopeDrums.FULL, -1003);
    }

    private static void inside() {
        Class<?>[] nested = RopeDrums.class.getDeclaredClasses();
        due.isTrue("few classes", nested.length <= 11);
        for (Class<?> c : nested) {
            due.isTrue(c + " is static", Modifier.isStatic(c.getModifiers()));
            due.isTrue(c + " is not open", (c.getModifiers() & (Modifier.PUBLIC | Modifier.PROTECTED)) == 0);
            fields(c);
        }
        fields(RopeDrums.class);
    }

    private static void fields(Class<?> c) {
        int own = 0;
        for (Field f : c.getDeclaredFields()) {
            if (!Modifier.isStatic(f.getModifiers())) {
                own++;
            } else if (!f.isSynthetic() && !f.isEnumConstant()) {
                due.isTrue(f + " is a constant", Modifier.isFinal(f.getModifiers()) && f.getType() == int.class);
            }
        }
        due.isTrue(c + " has few fields", own <= 20);
    }

    /** What the machine would do: no exception, no lambda, no remainder of doubles, no other library. */
    private static void code(Path classes) throws Exception {
        try (var files = Files.list(classes)) {
            for (Path file : files.filter(FaceTest::isOfTheProgram).toList()) {
                String text = told(file);
                due.isTrue(file + " was read", text.contains("Code:"));
                Matcher banned = BANNED.matcher(text);
                while (banned.find()) {
                    due.isTrue(file + " has no " + banned.group(), false);
                }
                Matcher called = Pattern.compile("Method (java/[\\w/]+\\.[\\w\"<>]+)").matcher(text);
                while (called.find()) {
                    due.isTrue(called.group(1) + " may be called", LIBRARY.contains(called.group(1)));
                }
            }
        }
    }

    private static boolean isOfTheProgram(Path file) {
        return file.getFileName().toString().matches("RopeDrums(\\$.*)?\\.class");
    }

    private static String told(Path file) {
        StringWriter out = new StringWriter();
        PrintWriter writer = new PrintWriter(out);
        ToolProvider.findFirst("javap").orElseThrow().run(writer, writer, "-c", "-p", file.toString());
        return out.toString();
    }

    private static void source(String text) {
        String[] banned = {"try", "catch", "throw", "synchronized", "assert", "Double.", "Float.", "package", "->", "::"};
        String code = text.replaceAll("(?s)/\\*.*?\\*/", "").replaceAll("//.*", "");
        for (String word : banned) {
            String pattern = Character.isLetter(word.charAt(0)) ? "\\b" + Pattern.quote(word) : Pattern.quote(word);
            due.isTrue("no " + word, !Pattern.compile(pattern).matcher(code).find());
        }
    }
}
