import java.io.StringWriter;
import java.net.URI;
import java.net.URL;
import java.net.URLClassLoader;
import java.nio.file.Files;
import java.nio.file.Path;
import java.util.List;
import java.util.regex.Matcher;
import java.util.regex.Pattern;
import javax.tools.JavaCompiler;
import javax.tools.JavaFileObject;
import javax.tools.SimpleJavaFileObject;
import javax.tools.ToolProvider;

/** What README.md shows holds: its Java is compiled and run, each call against the answer that stands behind it. */
public final class ReadmeTest {
    /** A call whose answer must stand behind it; other lines only make ready. */
    private static final Pattern CALL = Pattern.compile("(x\\.\\w+\\(.*\\)); *(?:// (-?\\d+|BAD|STATE|FULL|NONE)\\b.*)?");

    public static void main(String[] args) throws Exception {
        Path made = Files.createTempDirectory("readme");
        try {
            compile(program(Files.readString(Path.of("README.md"))), made);
            try (URLClassLoader loader = new URLClassLoader(new URL[] {made.toUri().toURL()})) {
                loader.loadClass("Shown").getMethod("run", MoodCheck.class).invoke(null, new MoodCheck());
            }
        } finally {
            Files.deleteIfExists(made.resolve("Shown.class"));
            Files.delete(made);
        }
        MoodCheck.CHECK.close();
    }

    /** The program that is compiled sees this class alone of the tests. */
    public static final class MoodCheck {
        private static final Check CHECK = new Check("ReadmeTest");

        public void due(String call, long got, long want) { CHECK.due(call, got, want); }
    }

    private static String program(String readme) {
        StringBuilder code = new StringBuilder("public final class Shown {\n    public static void run(ReadmeTest.MoodCheck check) {\n");
        Matcher blocks = Pattern.compile("(?s)```java\n(.*?)```").matcher(readme);
        while (blocks.find()) for (String line : blocks.group(1).split("\n")) code.append(statement(line)).append('\n');
        return code.append("    }\n}\n").toString();
    }

    private static String statement(String line) {
        Matcher call = CALL.matcher(line);
        if (!call.matches()) return line;
        if (call.group(2) == null) throw new IllegalStateException("no answer behind: " + line);
        String due = Character.isLetter(call.group(2).charAt(0)) ? "MoodTown." + call.group(2) : call.group(2);
        return "check.due(\"" + call.group(1) + "\", " + call.group(1) + ", " + due + ");";
    }

    private static void compile(String code, Path to) {
        JavaCompiler compiler = ToolProvider.getSystemJavaCompiler();
        StringWriter said = new StringWriter();
        JavaFileObject source = new SimpleJavaFileObject(URI.create("string:///Shown.java"), JavaFileObject.Kind.SOURCE) {
            @Override
            public CharSequence getCharContent(boolean ignoreErrors) { return code; }
        };
        List<String> options = List.of("-proc:none", "-d", to.toString(), "-cp", System.getProperty("java.class.path"));
        boolean taken = compiler.getTask(said, null, null, options, null, List.of(source)).call();
        if (!taken) throw new IllegalStateException("README.md shows Java that does not compile:\n" + said);
    }
}
