import java.lang.reflect.InvocationTargetException;
import java.lang.reflect.Method;
import java.lang.reflect.Modifier;

/** What the tests share: the errors, how a wrong answer is told, and the run of all tests of a class. */
abstract class Checks {
    static final int INVALID_ARGUMENT = -1000001;
    static final int NOT_POSSIBLE = -1000002;
    static final int LIMIT_REACHED = -1000003;
    static final int NOT_FOUND = -1000004;
    static final int LOST = 100;

    private static final long MOST_MILLISECONDS = 300000;

    private static volatile String part = "";
    private static int wrong = 0;

    /** Names what is tested: where the document says it, and, in the edge tests, its own words. */
    static void begin(String where) {
        part = where;
    }

    static void tell(String message) {
        wrong++;
        System.out.println(part + ": " + message);
    }

    static void due(String call, long got, long want) {
        if (got != want) {
            tell(call + " answered " + got + ", due is " + want);
        }
    }

    /** Runs every public static method of the class that takes and answers nothing. */
    static void runAll(Class<?> tests) throws IllegalAccessException {
        watch();
        int ran = 0;
        for (Method method : tests.getDeclaredMethods()) {
            if (isTest(method)) {
                begin(method.getName());
                run(method);
                ran++;
            }
        }
        System.out.println(tests.getName() + ", " + ran + " tests: "
                + (wrong == 0 ? "all answers are as due" : wrong + " answers are not as due"));
        if (wrong != 0 || ran == 0) {
            System.exit(1);
        }
    }

    /** A call that fails to end shall fail the tests, and not hold them up. */
    static void watch() {
        Thread watch = new Thread(() -> {
            try {
                Thread.sleep(MOST_MILLISECONDS);
            } catch (InterruptedException woken) {
                return;
            }
            System.out.println(part + ": a call does not end");
            Runtime.getRuntime().halt(1);
        });
        watch.setDaemon(true);
        watch.start();
    }

    private static boolean isTest(Method method) {
        int modifiers = method.getModifiers();
        return Modifier.isPublic(modifiers) && Modifier.isStatic(modifiers)
                && method.getParameterCount() == 0 && method.getReturnType() == void.class;
    }

    private static void run(Method method) throws IllegalAccessException {
        try {
            method.invoke(null);
        } catch (InvocationTargetException thrown) {
            tell(method.getName() + " threw " + thrown.getCause());
        }
    }
}
