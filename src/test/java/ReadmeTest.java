import java.io.IOException;
import java.lang.reflect.Method;
import java.lang.reflect.Modifier;
import java.net.URL;
import java.net.URLClassLoader;
import java.nio.file.Files;
import java.nio.file.Path;
import java.util.ArrayList;
import java.util.List;
import java.util.Set;
import java.util.TreeSet;
import java.util.regex.Matcher;
import java.util.regex.Pattern;
import java.util.stream.Stream;
import javax.tools.JavaCompiler;
import javax.tools.ToolProvider;

/** What README.md shows is compiled and run as it stands there: each call answers as told behind it. */
public final class ReadmeTest {
    private static final Due due = new Due();
    private static final Pattern BLOCK = Pattern.compile("(?ms)^```java\\n(.*?)^```$");
    private static final Pattern TOLD =
            Pattern.compile("(towns\\.\\w+\\(.*\\));\\s+// (-?\\d+|NONE|UNKNOWN|OUTSIDE|STATE|FULL)(: \\S.*)?");
    private static final Pattern CALL = Pattern.compile("\\btowns\\.(\\w+)\\(");
    private static int run = 0;

    public static void main(String[] args) throws Exception {
        String readme = Files.readString(Path.of("README.md"));
        List<String> lines = shown(readme);
        int tell = everyCallTells(lines);
        everyMethodIsShown(lines);
        everyTestIsNamed(readme);
        if (due.wrong() == 0) {
            use(program(lines));
            due.is("calls that were run, of those with an answer", run, tell);
        }
        due.end("ReadmeTest");
    }

    /** What the shown program hands over of each call; it is public for that alone. */
    public static void told(String call, long got, long want) {
        run++;
        due.is("README: " + call, got, want);
    }

    private static List<String> shown(String readme) {
        List<String> lines = new ArrayList<>();
        Matcher block = BLOCK.matcher(readme);
        while (block.find()) {
            lines.addAll(List.of(block.group(1).split("\n")));
        }
        return lines;
    }

    // A call in a loop stands further in, and has no one answer.
    private static int everyCallTells(List<String> lines) {
        int tell = 0;
        for (String line : lines) {
            boolean tells = TOLD.matcher(line).matches();
            due.holds("an answer stands behind: " + line, tells || !line.startsWith("towns."));
            tell += tells ? 1 : 0;
        }
        return tell;
    }

    private static void everyMethodIsShown(List<String> lines) {
        Set<String> calls = new TreeSet<>();
        for (String line : lines) {
            Matcher call = CALL.matcher(line);
            while (call.find()) {
                calls.add(call.group(1));
            }
        }
        for (Method method : HeldTowns.class.getDeclaredMethods()) {
            if (Modifier.isPublic(method.getModifiers())) {
                due.holds("README shows " + method.getName(), calls.contains(method.getName()));
            }
        }
    }

    private static void everyTestIsNamed(String readme) throws IOException {
        Set<String> named = new TreeSet<>();
        Matcher row = Pattern.compile("(?m)^\\| `(\\w+)` \\|").matcher(readme);
        while (row.find()) {
            named.add(row.group(1));
        }
        Set<String> there = new TreeSet<>();
        try (Stream<Path> files = Files.list(Path.of("src/test/java"))) {
            files.map(file -> file.getFileName().toString()).filter(name -> name.endsWith("Test.java"))
                    .forEach(name -> there.add(name.replace(".java", "")));
        }
        due.holds("README names " + there + ", not " + named, named.equals(there));
    }

    private static String program(List<String> lines) {
        StringBuilder text = new StringBuilder("public final class ReadmeUse {\n    public static void use() {\n");
        for (String line : lines) {
            text.append("        ").append(asked(line)).append('\n');
        }
        return text.append("    }\n}\n").toString();
    }

    private static String asked(String line) {
        Matcher told = TOLD.matcher(line);
        if (!told.matches()) {
            return line;
        }
        String call = told.group(1);
        boolean number = told.group(2).matches("-?\\d+");
        String want = number ? told.group(2) + "L" : "HeldTowns." + told.group(2);
        return "ReadmeTest.told(\"" + call.replace("\"", "\\\"") + "\", " + call + ", " + want + ");";
    }

    private static void use(String program) throws Exception {
        JavaCompiler compiler = ToolProvider.getSystemJavaCompiler();
        due.holds("there is a compiler", compiler != null);
        if (compiler == null) {
            return;
        }
        Path folder = Files.createTempDirectory("readme");
        Path source = folder.resolve("ReadmeUse.java");
        Files.writeString(source, program);
        int code = compiler.run(null, null, null,
                "--release", "17", "-cp", System.getProperty("java.class.path"),
                "-d", folder.toString(), source.toString());
        due.is("javac on what README shows", code, 0);
        if (code == 0) {
            try (URLClassLoader loader = new URLClassLoader(new URL[] {folder.toUri().toURL()})) {
                loader.loadClass("ReadmeUse").getMethod("use").invoke(null);
            }
        }
        try (Stream<Path> files = Files.list(folder)) {
            files.forEach(file -> file.toFile().delete());
        }
        Files.delete(folder);
    }
}
