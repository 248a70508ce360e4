import java.lang.reflect.InvocationTargetException;
import java.lang.reflect.Method;
import java.util.Arrays;
import java.util.Comparator;
import java.util.List;

/** What the boundary tests share: a test is a static method named after its promise; all of a class are run by their names. */
final class Checks {
    static final int BAD = -1, STATE = -2, FULL = -3, NONE = -9;
    static final int LEAST = Integer.MIN_VALUE, MOST = Integer.MAX_VALUE;

    private static String test = "";
    private static int wrong = 0;
    private static int checks = 0;

    private Checks() {
    }

    /** Ends the program with 1, if an answer was wrong or one of these promises has no test in the class. */
    static void runAll(Class<?> tests, int firstPromise, int lastPromise) throws ReflectiveOperationException {
        Method[] methods = tests.getDeclaredMethods();
        Arrays.sort(methods, Comparator.comparing(Method::getName));
        int run = 0;
        boolean[] tested = new boolean[lastPromise + 1];
        for (Method method : methods) {
            if (method.getName().startsWith("promise")) {
                test = method.getName();
                int promise = promiseOf(test);
                if (promise < firstPromise || promise > lastPromise) {
                    throw new IllegalStateException(test + " stands in the wrong class");
                }
                tested[promise] = true;
                runOne(method);
                run++;
            }
        }
        for (int promise = firstPromise; promise <= lastPromise; promise++) {
            test = "promise" + promise;
            due("has a test", tested[promise] ? 1 : 0, 1);
        }
        System.out.println(tests.getName() + ": " + run + " tests, " + checks + " checks, " + wrong + " wrong");
        if (wrong != 0) {
            System.exit(1);
        }
    }

    private static void runOne(Method method) throws ReflectiveOperationException {
        try {
            method.invoke(null);
        } catch (InvocationTargetException thrown) {
            wrong++;
            System.out.println(test + " threw " + thrown.getCause());
        }
    }

    private static int promiseOf(String name) {
        int end = "promise".length();
        while (end < name.length() && Character.isDigit(name.charAt(end))) {
            end++;
        }
        return Integer.parseInt(name.substring("promise".length(), end));
    }

    static void due(String what, int got, int want) {
        checks++;
        if (got != want) {
            wrong++;
            System.out.println(test + ": " + what + " answered " + got + ", due is " + want);
        }
    }

    static void dueRow(String what, int[] got, int... want) {
        checks++;
        if (!Arrays.equals(got, want)) {
            wrong++;
            System.out.println(test + ": " + what + " answered " + Arrays.toString(got) + ", due is " + Arrays.toString(want));
        }
    }

    /** Both runs leave all that can be seen alike. */
    static void dueAlike(String what, Run got, Run want) {
        checks++;
        List<String> seen = got.shown();
        List<String> wanted = want.shown();
        if (!seen.equals(wanted)) {
            wrong++;
            System.out.println(test + ": behind " + what + " there is not all as it should be; " + firstUnlike(seen, wanted));
        }
    }

    private static String firstUnlike(List<String> got, List<String> want) {
        for (int i = 0; i < Math.min(got.size(), want.size()); i++) {
            if (!got.get(i).equals(want.get(i))) {
                return got.get(i) + " in place of " + want.get(i);
            }
        }
        return got.size() + " rows in place of " + want.size();
    }

    /** The call answers so, and all that can be seen is behind it as it was ahead of it. */
    static void dueAndNothingChanges(Run ahead, Run behind, int want) {
        due("call " + behind.size() + ", " + behind.last(), behind.answer(), want);
        dueAlike("call " + behind.size() + ", " + behind.last(), behind, ahead);
    }

    static void dueUnchanged(Run ahead, String name, int want) {
        dueAndNothingChanges(ahead, ahead.then(name), want);
    }

    static void dueUnchanged(Run ahead, String name, int a, int want) {
        dueAndNothingChanges(ahead, ahead.then(name, a), want);
    }

    static void dueUnchanged(Run ahead, String name, int a, int b, int want) {
        dueAndNothingChanges(ahead, ahead.then(name, a, b), want);
    }

    static void write(ClockCrossings x, String text) {
        for (int i = 0; i < text.length(); i++) {
            x.type(text.charAt(i));
        }
    }

    static int tell(ClockCrossings x, String text) {
        x.clear();
        write(x, text);
        return x.tells();
    }

    static ClockCrossings told(String text) {
        ClockCrossings x = new ClockCrossings();
        int answer = tell(x, text);
        if (answer < 0) {
            due("tells() of " + text, answer, 0);
        }
        return x;
    }

    static void dueItems(String text, int items) {
        due("tells() of " + text, tell(new ClockCrossings(), text), items);
    }

    static void dueFault(String text, int place) {
        due("tells() of " + text, tell(new ClockCrossings(), text), -10 - place);
    }

    static int[] counts(ClockCrossings x) {
        int[] all = new int[8];
        for (int what = 0; what < 8; what++) {
            all[what] = x.count(what);
        }
        return all;
    }

    static int[] values(ClockCrossings x) {
        int[] all = new int[x.count(0)];
        for (int n = 0; n < all.length; n++) {
            all[n] = x.node(n, 7);
        }
        return all;
    }

    static int[] periods(ClockCrossings x) {
        return new int[] {x.period(0), x.period(1), x.period(2)};
    }
}
