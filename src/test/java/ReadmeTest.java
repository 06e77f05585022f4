import java.io.IOException;
import java.net.URL;
import java.net.URLClassLoader;
import java.nio.file.Files;
import java.nio.file.Path;
import java.util.List;
import java.util.regex.Matcher;
import java.util.regex.Pattern;
import javax.tools.JavaCompiler;
import javax.tools.ToolProvider;

/** The calls that README.md shows compile, and answer what stands behind them. */
public final class ReadmeTest {
    private static final Path README = Path.of("README.md");
    private static final Pattern SHOWN = Pattern.compile("```java\n(.*?)```", Pattern.DOTALL);
    private static final Pattern CALL =
            Pattern.compile("(?:int (\\w+) = )?(x\\.\\w+\\(.*\\)); +// (-?\\d+|true|false)\\b.*");

    private static int shown;

    public static void main(String[] args) throws IOException, ReflectiveOperationException {
        Matcher block = SHOWN.matcher(Files.readString(README));
        Due.yes("README.md shows calls", block.find());
        String program = programOf(block.group(1));
        Due.yes("README.md shows answers", shown > 20);
        runIt(program);
        Due.close("ReadmeTest");
    }

    private static String programOf(String calls) {
        StringBuilder text = new StringBuilder("final class Shown { static void run() {\n");
        for (String line : calls.split("\n")) {
            Matcher call = CALL.matcher(line);
            Due.is("answers behind " + line, call.matches() ? 1 : 0, line.contains("x.") ? 1 : 0);
            text.append(call.matches() ? compared(call) : line).append('\n');
        }
        return text.append("} }\n").toString();
    }

    private static String compared(Matcher call) {
        shown++;
        String name = call.group(1);
        String what = "ReadmeTest.is(\"" + call.group(2) + "\", ";
        return name == null
                ? what + call.group(2) + ", " + call.group(3) + ");"
                : "int " + name + " = " + call.group(2) + "; " + what + name + ", " + call.group(3) + ");";
    }

    public static void is(String call, int got, int want) {
        Due.is(call, got, want);
    }

    public static void is(String call, boolean got, boolean want) {
        Due.is(call, got ? 1 : 0, want ? 1 : 0);
    }

    private static void runIt(String program) throws IOException, ReflectiveOperationException {
        Path room = Files.createTempDirectory("readme");
        Path source = room.resolve("Shown.java");
        Files.writeString(source, program);
        String classes = System.getProperty("java.class.path");
        JavaCompiler compiler = ToolProvider.getSystemJavaCompiler();
        int code = compiler.run(null, null, null, "--release", "17", "-proc:none", "-cp", classes,
                "-d", room.toString(), source.toString());
        Due.is("README.md's calls compile", code, 0);
        if (code == 0) {
            callRun(room);
        }
        for (Path file : List.of(room.resolve("Shown.class"), source, room)) {
            Files.deleteIfExists(file);
        }
    }

    // A class in an unnamed package of another loader is in another package, so its method is
    // opened, and what it calls back must be public.
    private static void callRun(Path room) throws IOException, ReflectiveOperationException {
        URL[] places = {room.toUri().toURL()};
        try (URLClassLoader loader = new URLClassLoader(places, ReadmeTest.class.getClassLoader())) {
            var run = loader.loadClass("Shown").getDeclaredMethod("run");
            run.setAccessible(true);
            run.invoke(null);
        }
    }
}
