import java.lang.reflect.Constructor;
import java.lang.reflect.Field;
import java.lang.reflect.Method;
import java.lang.reflect.Modifier;
import java.nio.file.Files;
import java.nio.file.Path;
import java.util.Set;
import java.util.TreeSet;
import java.util.regex.Matcher;
import java.util.regex.Pattern;

/** The class has the document's face and no more, and keeps to those rules of LANGUAGE.md that can be looked up. */
public final class FaceTest {
    private static final Due due = new Due();
    private static final String[] METHODS = {
        "int letter(int)", "int blank()", "int fault()", "int table()", "int weight(int,int)", "int as(int,int)",
        "int village(int,int)", "int lifts(int,int,int)", "int blow(int,int)", "int put(int,int,int)", "int lift(int)",
        "int cut(int,int)", "int build(int,int)", "int where(int,int,int)", "int pack(int,int)", "int mend()",
        "int odds(int,int)", "int see(int,int,int,boolean)", "int forget()", "int decades(int,int,int)",
        "int image()", "int restore()", "int count(int)", "long digest()"};
    private static final String[] CONSTANTS = {"NONE=-1", "UNKNOWN=-101", "OUTSIDE=-102", "STATE=-103", "FULL=-104"};
    // Rules 2, 3, 4, 6, 10, 13: none of these has a place in the file.
    private static final String[] BANNED = {"\\bimport\\b", "\\bpackage\\b", "->", "::", "\\bcatch\\b", "\\bfinally\\b",
        "\\bthrow\\b", "\\bsynchronized\\b", "\\bassert\\b", "\\bSystem\\b", "\\bThread\\b", "\\bstatic \\{", "Exact\\b",
        "\\bObject\\b", "\\bdouble\\b", "\\bfloat\\b", "\\bgetClass\\b", "\\bhashCode\\b", "\\btoString\\b"};

    public static void main(String[] args) throws Exception {
        face();
        members(HeldTowns.class);
        int classes = 1;
        for (Class<?> inner : HeldTowns.class.getDeclaredClasses()) {
            classes++;
            due.holds(inner + " is static", Modifier.isStatic(inner.getModifiers()));
            due.holds(inner + " is not public", !Modifier.isPublic(inner.getModifiers()));
            members(inner);
        }
        due.holds("some twelve classes at most", classes <= 12);
        text(Files.readString(Path.of(args.length > 0 ? args[0] : "src/main/java/HeldTowns.java")));
        due.end("FaceTest");
    }

    private static void face() {
        Class<HeldTowns> face = HeldTowns.class;
        due.holds("public final", Modifier.isPublic(face.getModifiers()) && Modifier.isFinal(face.getModifiers()));
        Set<String> methods = new TreeSet<>();
        for (Method method : face.getDeclaredMethods()) {
            if (!Modifier.isPrivate(method.getModifiers())) {
                due.holds(method + " is public, not static", (method.getModifiers() & ~Modifier.FINAL) == Modifier.PUBLIC);
                methods.add(signature(method));
            }
        }
        due.holds("the methods: " + methods, methods.equals(Set.of(METHODS)));
        Set<String> constants = new TreeSet<>();
        for (Field field : face.getDeclaredFields()) {
            if (!Modifier.isPrivate(field.getModifiers())) {
                constants.add(constant(field));
            }
        }
        due.holds("the constants: " + constants, constants.equals(Set.of(CONSTANTS)));
        Constructor<?>[] made = face.getDeclaredConstructors();
        due.holds("one constructor", made.length == 1 && made[0].getParameterCount() == 0
                && Modifier.isPublic(made[0].getModifiers()));
    }

    private static String signature(Method method) {
        StringBuilder text = new StringBuilder(method.getReturnType() + " " + method.getName() + "(");
        for (Class<?> type : method.getParameterTypes()) {
            text.append(text.charAt(text.length() - 1) == '(' ? "" : ",").append(type);
        }
        return text.append(')').toString();
    }

    private static String constant(Field field) {
        try {
            boolean sound = field.getModifiers() == (Modifier.PUBLIC | Modifier.STATIC | Modifier.FINAL);
            return sound ? field.getName() + "=" + field.getInt(null) : "not a constant: " + field;
        } catch (IllegalAccessException e) {
            return "not to be read: " + field;
        }
    }

    // Rules 1, 5, 11
    private static void members(Class<?> type) {
        Set<String> open = new TreeSet<>();
        for (Method method : HeldTowns.class.getMethods()) {
            open.add(method.getName());
        }
        for (Method method : type.getDeclaredMethods()) {
            due.holds(method + " takes seven at most", method.getParameterCount() <= 7);
            due.holds(method + " has a name of its own",
                    Modifier.isPublic(method.getModifiers()) || !open.contains(method.getName()));
        }
        int fields = 0;
        for (Field field : type.getDeclaredFields()) {
            boolean isStatic = Modifier.isStatic(field.getModifiers());
            fields += isStatic ? 0 : 1;
            due.holds(field + " is final, if static", !isStatic || Modifier.isFinal(field.getModifiers()));
        }
        due.holds(type + " has some twenty fields", fields <= 20);
    }

    private static void text(String source) {
        String code = source.replaceAll("(?s)/\\*.*?\\*/", "").replaceAll("//[^\n]*", "");
        for (String banned : BANNED) {
            Matcher found = Pattern.compile(banned).matcher(code);
            due.holds("no " + banned, !found.find());
        }
        due.holds("ASCII alone", source.chars().allMatch(c -> c == '\n' || c >= 32 && c < 127));
        int length = 0;
        for (String line : code.split("\n")) {
            boolean begins = line.matches(" {4}( {4})?[a-z][\\w\\[\\] ]*\\w\\(.*\\{") && !line.contains(" new ");
            length = begins ? 0 : length + 1;
            boolean ends = line.matches(" {4}( {4})?\\}");
            due.holds("a method of sixty lines at most, up to: " + line, !ends || length <= 60);
        }
    }
}
