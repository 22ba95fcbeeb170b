import java.lang.reflect.InvocationTargetException;
import java.lang.reflect.Method;
import java.util.ArrayList;
import java.util.Comparator;
import java.util.List;

/** Runs the tests of one promise, each for itself, so that a broken sentence is told by its test's name. */
final class Promises {
    static final int COUNT = 25;
    private static final long LONGEST_MILLIS = 120000;

    private Promises() {
    }

    static void run(Class<?> tests) {
        endAnyway();
        Due all = new Due();
        for (Method test : testsOf(tests)) {
            all.take(run(test));
        }
        all.end();
    }

    /** A call that does not end is wrong, too: it must not keep the other tests from being told. */
    private static void endAnyway() {
        Thread watch = new Thread(() -> {
            try {
                Thread.sleep(LONGEST_MILLIS);
            } catch (InterruptedException e) {
                return;
            }
            System.out.println("WRONG a call does not end");
            System.out.flush();
            Runtime.getRuntime().halt(1);
        });
        watch.setDaemon(true);
        watch.start();
    }

    static List<Method> testsOf(Class<?> tests) {
        List<Method> found = new ArrayList<>();
        for (Method method : tests.getDeclaredMethods()) {
            if (method.isAnnotationPresent(Says.class)) {
                found.add(method);
            }
        }
        found.sort(Comparator.comparing(Method::getName));
        return found;
    }

    private static Due run(Method test) {
        Due due = new Due();
        try {
            test.invoke(null, due);
        } catch (InvocationTargetException | IllegalAccessException e) {
            Throwable cause = e.getCause() == null ? e : e.getCause();
            due.isTrue("no exception, but: " + cause, false);
        }
        due.isTrue("it asks something", due.hasAsked());
        System.out.println((due.allWell() ? "ok    " : "WRONG ") + test.getName());
        return due;
    }
}
