import java.io.IOException;
import java.lang.reflect.Method;
import java.lang.reflect.Modifier;
import java.net.URL;
import java.net.URLClassLoader;
import java.nio.file.Files;
import java.nio.file.Path;
import java.util.ArrayList;
import java.util.List;
import java.util.regex.Matcher;
import java.util.regex.Pattern;
import javax.tools.JavaCompiler;
import javax.tools.ToolProvider;

/**
 * The java blocks of README.md become a class, line by line as they stand there, and run: each call
 * must have the answer that its comment tells. A block that begins with "static" is a helper of the others.
 */
public final class ReadmeTest {
    private static final Pattern MADE = Pattern.compile("LastPruned \\w+ = new LastPruned\\(\\);");
    private static final Pattern CALL = Pattern.compile(
        "(?:int (\\w+) = )?(\\w+(?:\\.\\w+)?\\(.*\\));\\s*// (-?\\d+|BAD|FULL|NONE)(?:: .*)?");
    private static final int CALLS_LEAST = 80;

    private final List<String> lines;
    private final StringBuilder helpers = new StringBuilder();
    private final StringBuilder runs = new StringBuilder();
    private int calls = 0;

    private ReadmeTest(List<String> lines) {
        this.lines = lines;
    }

    public static void main(String[] args) throws Exception {
        ReadmeTest readme = new ReadmeTest(Files.readAllLines(Path.of("README.md")));
        readme.readBlocks();
        readme.showsEveryMethod();
        Check.due("calls with an answer, " + CALLS_LEAST + " at least", readme.calls >= CALLS_LEAST ? 1 : 0, 1);
        run("public final class ReadmeRuns {\n" + readme.helpers
            + "public static void run() {\n" + readme.runs + "}\n}\n");
        Check.end();
    }

    private void readBlocks() {
        for (int i = 0; i < lines.size(); i++) {
            if (!lines.get(i).equals("```java")) {
                continue;
            }
            int end = i + 1;
            while (end < lines.size() && !lines.get(end).equals("```")) {
                end++;
            }
            readBlock(i + 1, end);
            i = end;
        }
    }

    private void readBlock(int from, int end) {
        if (from < end && lines.get(from).startsWith("static ")) {
            helpers.append(String.join("\n", lines.subList(from, end))).append('\n');
            return;
        }
        runs.append("{\n");
        for (int i = from; i < end; i++) {
            readLine(lines.get(i).trim(), i + 1);
        }
        runs.append("}\n");
    }

    private void readLine(String line, int number) {
        Matcher call = CALL.matcher(line);
        if (line.isEmpty() || MADE.matcher(line).matches()) {
            runs.append(line).append('\n');
        } else if (call.matches()) {
            calls++;
            addCall(call, number);
        } else {
            Check.due("README.md, line " + number + ", is a call with an answer: " + line, 0, 1);
        }
    }

    private void addCall(Matcher call, int number) {
        String name = call.group(1);
        String asked = name == null ? call.group(2) : name;
        String want = call.group(3).matches("[A-Z]+") ? "LastPruned." + call.group(3) : call.group(3);
        if (name != null) {
            runs.append("int ").append(name).append(" = ").append(call.group(2)).append(";\n");
        }
        runs.append("Check.due(\"README.md, line ").append(number).append("\", ")
            .append(asked).append(", ").append(want).append(");\n");
    }

    private void showsEveryMethod() {
        String shown = helpers.toString() + runs;
        for (Method m : LastPruned.class.getDeclaredMethods()) {
            if (Modifier.isPublic(m.getModifiers())) {
                Check.due("README.md shows " + m.getName(), shown.contains("." + m.getName() + "(") ? 1 : 0, 1);
            }
        }
    }

    private static void run(String source) throws Exception {
        Path room = Files.createTempDirectory("readme");
        try {
            Path file = Files.writeString(room.resolve("ReadmeRuns.java"), source);
            JavaCompiler compiler = ToolProvider.getSystemJavaCompiler();
            int code = compiler == null ? -1 : compiler.run(null, null, null,
                "-cp", System.getProperty("java.class.path"), "-d", room.toString(), file.toString());
            Check.due("compiling what README.md shows", code, 0);
            if (code == 0) {
                load(room);
            }
        } finally {
            remove(room);
        }
    }

    private static void load(Path room) throws Exception {
        URL[] urls = {room.toUri().toURL()};
        try (URLClassLoader loader = new URLClassLoader(urls, ReadmeTest.class.getClassLoader())) {
            loader.loadClass("ReadmeRuns").getMethod("run").invoke(null);
        }
    }

    private static void remove(Path room) throws IOException {
        List<Path> files = new ArrayList<>();
        try (var inside = Files.newDirectoryStream(room)) {
            inside.forEach(files::add);
        }
        files.add(room);
        for (Path file : files) {
            Files.delete(file);
        }
    }
}
