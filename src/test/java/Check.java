import java.lang.reflect.InvocationTargetException;
import java.lang.reflect.Method;
import java.util.Arrays;
import java.util.Comparator;

/** Counts and prints the answers that are not as due; a test ends with {@link #end}. */
final class Check {

    interface Call {
        long answer();
    }

    interface OfVertex {
        long answer(int v);
    }

    private static int wrong = 0;
    private static String test = "";

    private Check() {
    }

    /**
     * Runs all tests of a promise, which are the methods that bear its number in their names, so that
     * none is written and then not run. One that throws does not keep the others from being run.
     */
    static void promise(String number, Class<?> tests) {
        int ran = 0;
        Method[] methods = tests.getDeclaredMethods();
        Arrays.sort(methods, Comparator.comparing(Method::getName));
        for (Method method : methods) {
            if (method.getName().startsWith("promise" + number)) {
                run(method);
                ran++;
            }
        }
        test = "";
        System.out.println(ran + " tests of promise " + number);
        due("promise " + number + " has tests", ran > 0, true);
        end();
    }

    private static void run(Method method) {
        test = method.getName() + ": ";
        try {
            method.setAccessible(true);
            method.invoke(null);
        } catch (InvocationTargetException e) {
            tell("threw " + e.getCause());
        } catch (IllegalAccessException e) {
            tell("could not be run: " + e);
        }
    }

    private static void tell(String what) {
        wrong++;
        System.out.println(test + what);
    }

    static void due(String what, long got, long want) {
        if (got != want) {
            tell(what + " answered " + got + ", due is " + want);
        }
    }

    static void due(String what, boolean got, boolean want) {
        due(what, got ? 1 : 0, want ? 1 : 0);
    }

    /** What a call answers for the vertices 0, 1, 2 and so on. */
    static void dueEach(String what, OfVertex call, long... want) {
        for (int v = 0; v < want.length; v++) {
            due(what + " of " + v, call.answer(v), want[v]);
        }
    }

    /** The exception's very class counts: a kind of it, as an array's own exception, is wrong too. */
    static void dueThrow(String what, Class<? extends RuntimeException> want, Call call) {
        try {
            long got = call.answer();
            tell(what + " answered " + got + ", due is " + want.getSimpleName());
        } catch (RuntimeException e) {
            if (e.getClass() != want) {
                tell(what + " threw " + e + ", due is " + want.getSimpleName());
            }
        }
    }

    /** Two objects of at most ten vertices, so that all there is to ask stays under 512 calls. */
    static void dueSame(String what, FlowNest got, FlowNest want) {
        String[] gotten = Graphs.answers(got);
        String[] wanted = Graphs.answers(want);
        for (int i = 0; i < Math.max(gotten.length, wanted.length); i++) {
            String one = i < gotten.length ? gotten[i] : "nothing";
            String other = i < wanted.length ? wanted[i] : "nothing";
            if (!one.equals(other)) {
                tell(what + ": " + one + ", due is " + other);
                return;
            }
        }
    }

    static void end() {
        System.out.println(wrong == 0 ? "all answers are as due" : wrong + " answers are not as due");
        if (wrong != 0) {
            System.exit(1);
        }
    }
}
