import java.io.IOException;
import java.lang.reflect.Field;
import java.lang.reflect.Method;
import java.lang.reflect.Modifier;
import java.nio.file.Files;
import java.nio.file.Path;
import java.util.ArrayList;
import java.util.List;
import java.util.Set;
import java.util.TreeSet;
import java.util.regex.Matcher;
import java.util.regex.Pattern;
import java.util.stream.Collectors;
import java.util.stream.Stream;

/** The document itself is read: the class has the face shown there, and the tests quote it as it stands. */
public final class DocumentTest {
    private static final int PROMISES = 25;
    private static final Path TESTS = Path.of("src/test/java");
    private static final Due due = new Due();

    public static void main(String[] args) throws Exception {
        String document = Files.readString(Path.of("../shared/DOC.md"));
        methodsAsShown(document);
        constantsAsShown(document);
        eachPromiseHasItsHeading(document);
        eachPromiseHasTests();
        quotesStandThere(document);
        due.end("DocumentTest");
    }

    private static void methodsAsShown(String document) {
        Set<String> shown = all("(?m)^    public ((?:int|long) \\w+\\([^)]*\\));$", document);
        due.holds("24 methods are shown", shown.size() == 24);
        Set<String> there = new TreeSet<>();
        for (Method method : HeldTowns.class.getDeclaredMethods()) {
            if (Modifier.isPublic(method.getModifiers())) {
                there.add(signature(method));
            }
        }
        Set<String> types = new TreeSet<>();
        for (String method : shown) {
            types.add(withoutNames(method));
        }
        due.holds("the methods " + types + ", not " + there, types.equals(there));
    }

    private static String signature(Method method) {
        String types = Stream.of(method.getParameterTypes()).map(Class::getName).collect(Collectors.joining(", "));
        return method.getReturnType() + " " + method.getName() + "(" + types + ")";
    }

    private static String withoutNames(String method) {
        return method.replaceAll("(int|boolean) \\w+([,)])", "$1$2");
    }

    private static void constantsAsShown(String document) throws IllegalAccessException {
        Set<String> shown = all("\\b([A-Z]+ = -\\d+)(?=[,;])", document);
        due.holds("5 constants are shown", shown.size() == 5);
        Set<String> there = new TreeSet<>();
        for (Field field : HeldTowns.class.getFields()) {
            there.add(field.getName() + " = " + field.getInt(null));
        }
        due.holds("the constants " + shown + ", not " + there, shown.equals(there));
    }

    /** No promise has come to the document, or gone from it, that the tests do not know of. */
    private static void eachPromiseHasItsHeading(String document) {
        Set<String> headings = all("(?m)^## Promise (\\d+): ", document);
        due.is("promises", headings.size(), PROMISES);
        for (int promise = 1; promise <= PROMISES; promise++) {
            due.holds("promise " + promise + " is there", headings.contains(Integer.toString(promise)));
        }
    }

    private static void eachPromiseHasTests() throws IOException {
        String worked = Files.readString(TESTS.resolve("PromiseTest.java"));
        Set<String> byHand = all("due\\.is\\(\"(\\d+) ", worked);
        Set<String> atEdges = new TreeSet<>();
        for (String source : edgeTests()) {
            atEdges.addAll(all("edge\\.says\\((\\d+), \"", source));
        }
        for (int promise = 1; promise <= PROMISES; promise++) {
            String number = Integer.toString(promise);
            due.holds("PromiseTest has promise " + number, byHand.contains(number));
            due.holds("an edge test has promise " + number, atEdges.contains(number));
        }
    }

    private static void quotesStandThere(String document) throws IOException {
        int quotes = 0;
        for (String source : edgeTests()) {
            for (String words : all("edge\\.says\\(\\d+, \"((?:[^\"\\\\]|\\\\.)*)\"\\);", source)) {
                quotes++;
                due.holds("the document says: " + words, document.contains(words.replace("\\\"", "\"")));
            }
        }
        due.holds("there are quotes", quotes > PROMISES);
    }

    private static List<String> edgeTests() throws IOException {
        try (Stream<Path> files = Files.list(TESTS)) {
            List<Path> edges = files.filter(file -> file.getFileName().toString().startsWith("EdgesOf")).sorted().toList();
            List<String> sources = new ArrayList<>();
            for (Path file : edges) {
                sources.add(Files.readString(file));
            }
            return sources;
        }
    }

    private static Set<String> all(String pattern, String text) {
        Set<String> found = new TreeSet<>();
        Matcher matcher = Pattern.compile(pattern).matcher(text);
        while (matcher.find()) {
            found.add(matcher.group(1));
        }
        return found;
    }
}
