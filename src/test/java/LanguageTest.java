import java.io.IOException;
import java.lang.reflect.Constructor;
import java.lang.reflect.Field;
import java.lang.reflect.Method;
import java.lang.reflect.Modifier;
import java.nio.file.Files;
import java.nio.file.Path;
import java.util.Arrays;
import java.util.List;
import java.util.TreeSet;
import java.util.regex.Matcher;
import java.util.regex.Pattern;

/** The rules of LANGUAGE.md that can be seen from outside: the face, words that are ruled out, long methods. */
final class LanguageTest {
    private static final List<String> FACE = List.of("write 1", "wipe 0", "fault 0", "lay 0", "mould 1", "core 2",
        "against 2", "drag 2", "speed 2", "tell 2", "shoot 0", "waitCool 0", "undo 0", "teach 1", "forget 0", "wide 1",
        "band 2", "shot 2", "curve 2", "cavity 2", "filled 3", "tried 2", "even 1", "earlier 1", "order 1", "count 1");

    private LanguageTest() { }

    static void run() throws IOException {
        face();
        classesInside();
        words();
        lengths();
    }

    private static void face() {
        TreeSet<String> open = new TreeSet<>();
        for (Method method : MouldShots.class.getDeclaredMethods()) {
            boolean isOpen = !Modifier.isPrivate(method.getModifiers());
            String told = method.getName() + " " + method.getParameterCount();
            if (isOpen) {
                open.add(told);
                Check.yes(told + " is public, int, of ints", Modifier.isPublic(method.getModifiers())
                    && method.getReturnType() == int.class
                    && Arrays.stream(method.getParameterTypes()).allMatch(type -> type == int.class));
            } else {
                Check.yes(told + " has a name of its own", !names().contains(method.getName()));
            }
        }
        Check.yes("the face is " + open, open.equals(new TreeSet<>(FACE)));
        for (Field field : MouldShots.class.getDeclaredFields()) {
            boolean constant = List.of("BAD", "NO", "FULL", "NONE").contains(field.getName());
            Check.yes(field.getName(), Modifier.isPublic(field.getModifiers()) == constant
                && Modifier.isPrivate(field.getModifiers()) != constant);
            Check.yes(field.getName() + " static is final",
                !Modifier.isStatic(field.getModifiers()) || Modifier.isFinal(field.getModifiers()));
        }
        Constructor<?>[] made = MouldShots.class.getDeclaredConstructors();
        Check.same("constructors", made.length, 1);
        Check.yes("public final", Modifier.isPublic(MouldShots.class.getModifiers())
            && Modifier.isFinal(MouldShots.class.getModifiers()) && Modifier.isPublic(made[0].getModifiers()));
        Check.same("BAD", MouldShots.BAD, -1);
        Check.same("NO", MouldShots.NO, -2);
        Check.same("FULL", MouldShots.FULL, -3);
        Check.same("NONE", MouldShots.NONE, -4);
    }

    private static List<String> names() {
        return FACE.stream().map(told -> told.split(" ")[0]).toList();
    }

    private static void classesInside() {
        Class<?>[] inside = MouldShots.class.getDeclaredClasses();
        Check.yes("twelve classes at most", inside.length <= 11);
        for (Class<?> one : inside) {
            Check.yes(one + " is static, private", Modifier.isStatic(one.getModifiers())
                && Modifier.isPrivate(one.getModifiers()));
            for (Method method : one.getDeclaredMethods()) {
                Check.yes(method + " has a name of its own", !names().contains(method.getName()));
            }
        }
    }

    private static String source() throws IOException {
        String whole = Files.readString(Path.of("src/main/java/MouldShots.java"));
        return whole.replaceAll("(?s)/\\*.*?\\*/", "").replaceAll("//.*", "").replaceAll("'.'", "0")
            .replaceAll("\"[^\"]*\"", "TEXT");
    }

    private static void words() throws IOException {
        String source = source();
        String[] ruledOut = {"\\bthrow\\b", "\\btry\\b", "\\bcatch\\b", "\\bsynchronized\\b", "\\bassert\\b", "->", "::",
            "\\bimport\\b", "\\bpackage\\b", "\\bfinally\\b", "\\bprotected\\b", "\\bthis\\b\\s*\\)", "\\bObject\\b",
            "\\bdouble\\b", "\\bfloat\\b", "Exact\\b", "\\bhashCode\\b", "\\btoString\\b", "\\bwhile\\b"};
        for (String word : ruledOut) {
            Matcher found = Pattern.compile(word).matcher(source);
            Check.yes("no " + word, !found.find());
        }
        for (char sign : Files.readString(Path.of("src/main/java/MouldShots.java")).toCharArray()) {
            if (sign > 126) {
                Check.yes("sign " + (int) sign, false);
            }
        }
    }

    private static void lengths() throws IOException {
        int from = -1;
        String[] lines = source().split("\n");
        for (int i = 0; i < lines.length; i++) {
            if (lines[i].matches("( {4}| {8})(public|private).*\\(.*\\{")) {
                from = i;
                Check.yes("seven parameters: " + lines[i], lines[i].split(",").length <= 7);
            }
            if (from >= 0 && lines[i].matches(" {4}( {4})?}")) {
                Check.yes("short: " + lines[from], i - from <= 60);
            }
        }
        Check.yes("methods were seen", from > 0);
    }
}
