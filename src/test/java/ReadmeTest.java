import java.io.ByteArrayOutputStream;
import java.io.PrintStream;
import java.lang.reflect.Method;
import java.lang.reflect.Modifier;
import java.net.URL;
import java.net.URLClassLoader;
import java.nio.charset.StandardCharsets;
import java.nio.file.Files;
import java.nio.file.Path;
import java.util.Set;
import java.util.TreeSet;
import java.util.regex.Matcher;
import java.util.regex.Pattern;
import javax.tools.ToolProvider;

/** The README's example prints what the README says, and its table names every call. */
public final class ReadmeTest {
    private static final Path README = Path.of("README.md");
    private static final Path PLACE = Path.of("build", "readme");

    public static void main(String[] args) throws Exception {
        Check check = new Check();
        String text = Files.readString(README);
        check.due("what the example prints", printedBy(block(text, "java"), args[1]), block(text, "text"));
        check.due("the calls in the table", callsInTable(text), callsOfFace());
        check.end("ReadmeTest");
    }

    /** The first block of this kind. */
    private static String block(String text, String kind) {
        Matcher block = Pattern.compile("(?s)\n```" + kind + "\n(.*?)```\n").matcher(text);
        return block.find() ? block.group(1) : "no block of " + kind;
    }

    /** The README says that the example is compiled together with the class. */
    private static String printedBy(String example, String source) throws Exception {
        Files.createDirectories(PLACE);
        Path file = Files.writeString(PLACE.resolve("Example.java"), example);
        int failed = ToolProvider.getSystemJavaCompiler().run(null, null, null,
                "--release", "17", "-encoding", "UTF-8", "-d", PLACE.toString(), source, file.toString());
        if (failed != 0) {
            return "the example does not compile";
        }
        ByteArrayOutputStream printed = new ByteArrayOutputStream();
        PrintStream before = System.out;
        System.setOut(new PrintStream(printed, true, StandardCharsets.UTF_8));
        try (URLClassLoader loader = new URLClassLoader(new URL[] {PLACE.toUri().toURL()})) {
            loader.loadClass("Example").getMethod("main", String[].class).invoke(null, (Object) new String[0]);
        } finally {
            System.setOut(before);
        }
        return printed.toString(StandardCharsets.UTF_8).replace(System.lineSeparator(), "\n");
    }

    private static Set<String> callsInTable(String text) {
        Set<String> calls = new TreeSet<>();
        for (String row : text.split("\n")) {
            Matcher call = Pattern.compile("`(\\w+)`").matcher(row.startsWith("|") ? row : "");
            while (call.find()) {
                calls.add(call.group(1));
            }
        }
        return calls;
    }

    private static Set<String> callsOfFace() {
        Set<String> calls = new TreeSet<>();
        for (Method method : CometObservatory.class.getDeclaredMethods()) {
            if (Modifier.isPublic(method.getModifiers())) {
                calls.add(method.getName());
            }
        }
        return calls;
    }
}
