import java.lang.reflect.InvocationTargetException;
import java.lang.reflect.Method;
import java.util.Arrays;
import java.util.Comparator;
import java.util.Map;
import java.util.TreeMap;
import java.util.regex.Matcher;
import java.util.regex.Pattern;

/** Runs the tests of a class: each of its methods that is named after its promise or after its part of the terms. */
final class Tests {
    private static final Pattern NAME = Pattern.compile("(promise|terms)(\\d+)_\\w+");
    private static final int PROMISES = 27;
    private static final int PARTS = 3;

    private final Map<String, Integer> tests = new TreeMap<>();

    void run(Class<?> of) throws IllegalAccessException {
        Method[] methods = of.getDeclaredMethods();
        Arrays.sort(methods, Comparator.comparing(Method::getName));
        for (Method method : methods) {
            Matcher name = NAME.matcher(method.getName());
            if (name.matches()) {
                run(method);
                tests.merge(name.group(1) + name.group(2), 1, Integer::sum);
            }
        }
        Check.test = "";
    }

    private static void run(Method method) throws IllegalAccessException {
        Check.test = method.getName();
        int checked = Check.passed + Check.failed;
        try {
            method.invoke(null);
        } catch (InvocationTargetException e) {
            Check.yes("threw " + e.getCause(), false);
        }
        Check.yes("looked at an answer", Check.passed + Check.failed > checked);
    }

    void eachPromiseHasOne() {
        for (int n = 1; n <= PROMISES; n++) {
            Check.yes("promise " + n + " has tests", tests.containsKey("promise" + n));
        }
        for (int n = 1; n <= PARTS; n++) {
            Check.yes("part " + n + " of the terms has tests", tests.containsKey("terms" + n));
        }
    }

    int count() {
        return tests.values().stream().mapToInt(Integer::intValue).sum();
    }
}
