import java.lang.reflect.Method;
import java.nio.file.Files;
import java.nio.file.Path;
import java.util.Arrays;
import java.util.regex.Matcher;
import java.util.regex.Pattern;

/** README.md: its example answers as it says, its tables name each call, item and constant, its tests are .ci/run. */
final class ReadmeTest {
    private static final Pattern TEXT = Pattern.compile("String text = \"([^\"]*)\";");
    private static final Pattern CALL = Pattern.compile("(?m)^m\\.(\\w+)\\(([-\\d, ]*)\\);\\s+// (-?\\d+)\\b");

    private ReadmeTest() { }

    static void run() throws Exception {
        Check.test = "README.md";
        String readme = Files.readString(Path.of("README.md"));
        example(readme.substring(readme.indexOf("```java"), readme.indexOf("```\n", readme.indexOf("```java"))));
        for (Method call : calls()) {
            Check.yes("tells of " + call.getName(), readme.contains("| `" + call.getName() + "("));
        }
        for (String told : new String[] {"vV,R,K;", "cE;", "sP,S;", "oP,Q,T;", "hH,N,C;", "BAD", "NO", "NONE", "FULL"}) {
            Check.yes("tells of " + told, readme.contains("| `" + told + "` |"));
        }
        Check.yes("tells how to run the tests", readme.contains("## How to run its tests\n\n    .ci/run\n"));
        Check.test = "";
    }

    private static Method[] calls() {
        return Arrays.stream(MouldShots.class.getMethods())
            .filter(call -> call.getDeclaringClass() == MouldShots.class).toArray(Method[]::new);
    }

    private static void example(String code) throws Exception {
        MouldShots m = new MouldShots();
        Matcher text = TEXT.matcher(code);
        Check.yes("a text is told", text.find());
        for (char letter : text.group(1).toCharArray()) {
            m.write(letter);
        }
        int seen = 0;
        Matcher call = CALL.matcher(code);
        while (call.find()) {
            seen++;
            Check.same(call.group(), answer(m, call.group(1), call.group(2)), Integer.parseInt(call.group(3)));
        }
        Check.same("calls with their answers", seen, code.lines().filter(line -> line.startsWith("m.")).count());
    }

    private static int answer(MouldShots m, String name, String numbers) throws Exception {
        Object[] told = numbers.isEmpty() ? new Object[0]
            : Arrays.stream(numbers.split(", *")).map(Integer::valueOf).toArray();
        for (Method call : calls()) {
            if (call.getName().equals(name) && call.getParameterCount() == told.length) {
                return (int) call.invoke(m, told);
            }
        }
        Check.yes("there is a call " + name, false);
        return 0;
    }
}
