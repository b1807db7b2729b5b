import java.io.IOException;
import java.net.URL;
import java.net.URLClassLoader;
import java.nio.file.Files;
import java.nio.file.Path;
import java.util.List;
import java.util.concurrent.Callable;
import java.util.regex.Matcher;
import java.util.regex.Pattern;
import javax.tools.JavaCompiler;
import javax.tools.ToolProvider;

/** What README.md shows is what the class answers: its own lines are compiled and run. */
public final class ReadmeTest {
    private static final Due DUE = new Due();
    private static final Pattern BLOCK = Pattern.compile("```java\n(.*?)```", Pattern.DOTALL);
    private static final Pattern SHOWN = Pattern.compile("(town\\..*?); *// (throws \\w+|-?\\w+).*");
    private static final Pattern ROW = Pattern.compile("^\\|.*\\| `([^`]*;)` \\|$", Pattern.MULTILINE);
    private static final String FACE = "sign read place piece speed name barred clear spot along check fault print at count";
    private static int shown;

    public static void main(String[] args) throws Exception {
        String path = System.getProperty("readme");
        if (path == null) {
            throw new IllegalStateException("name README.md with -Dreadme=..");
        }
        String readme = Files.readString(Path.of(path));
        String source = sourceOf(readme);
        runExample(source);
        DUE.same("that lines with answers are shown", shown > 0, true);
        for (String call : FACE.split(" ")) {
            DUE.same("that " + call + " is shown", source.contains("town." + call + "("), true);
        }
        checkRows(readme);
        DUE.finish();
    }

    /** The example calls this for each line that has a comment. */
    public static void shown(String line, String want, Callable<Object> call) {
        shown++;
        String got;
        try {
            got = String.valueOf(call.call());
        } catch (Exception e) {
            got = "throws " + e.getClass().getSimpleName();
        }
        DUE.same(line, got, want);
    }

    private static String sourceOf(String readme) {
        StringBuilder methods = new StringBuilder();
        StringBuilder lines = new StringBuilder();
        Matcher block = BLOCK.matcher(readme);
        while (block.find()) {
            if (block.group(1).startsWith("static ")) {
                methods.append(block.group(1));
                continue;
            }
            for (String line : block.group(1).split("\n")) {
                lines.append(asCall(line)).append('\n');
            }
        }
        return "public final class Example {\n" + methods + "public static void main(String[] args) {\n" + lines + "}\n}\n";
    }

    private static String asCall(String line) {
        Matcher answered = SHOWN.matcher(line);
        if (!answered.matches()) {
            DUE.same("that a line with a comment tells an answer: " + line, line.contains("//"), false);
            return line;
        }
        String call = answered.group(1);
        return "ReadmeTest.shown(\"" + call + "\", \"" + answered.group(2) + "\", () -> " + call + ");";
    }

    private static void runExample(String source) throws Exception {
        Path folder = Files.createTempDirectory("readme");
        try {
            Path file = folder.resolve("Example.java");
            Files.writeString(file, source);
            JavaCompiler compiler = ToolProvider.getSystemJavaCompiler();
            int exit = compiler.run(null, null, null, "--release", "17", "-cp", System.getProperty("java.class.path"),
                    "-d", folder.toString(), file.toString());
            DUE.same("javac on the example", exit, 0);
            if (exit == 0) {
                try (URLClassLoader loader = new URLClassLoader(new URL[] {folder.toUri().toURL()})) {
                    loader.loadClass("Example").getMethod("main", String[].class).invoke(null, (Object) new String[0]);
                }
            }
        } finally {
            delete(folder);
        }
    }

    private static void delete(Path folder) throws IOException {
        for (String name : List.of("Example.java", "Example.class")) {
            Files.deleteIfExists(folder.resolve(name));
        }
        Files.delete(folder);
    }

    private static void checkRows(String readme) {
        Matcher row = ROW.matcher(readme);
        int rows = 0;
        while (row.find()) {
            rows++;
            if (row.group(1).startsWith("g")) {
                DUE.rightAs(row.group(1), "");
            } else {
                DUE.right(row.group(1));
            }
        }
        DUE.same("rows in the table of rows", rows, 5);
    }
}
