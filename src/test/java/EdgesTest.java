import java.lang.reflect.InvocationTargetException;
import java.lang.reflect.Method;
import java.lang.reflect.Modifier;
import java.util.Arrays;
import java.util.Comparator;

/** Runs the tests of the document's edges, each named by its promise's number. */
final class EdgesTest {
    private static final int PROMISES = 29;
    private static final Class<?>[] GROUPS = {EdgesOfBoard.class, EdgesOfPlies.class, EdgesOfLooking.class, EdgesOfParts.class,
        EdgesOfPlays.class, EdgesOfSlots.class};

    private final int[] passed = new int[PROMISES + 1];
    private int failed = 0;

    public static void main(String[] args) throws IllegalAccessException {
        EdgesTest all = new EdgesTest();
        for (Class<?> group : GROUPS) {
            all.runGroup(group);
        }
        all.end();
    }

    private void runGroup(Class<?> group) throws IllegalAccessException {
        Method[] methods = group.getDeclaredMethods();
        Arrays.sort(methods, Comparator.comparing(Method::getName));
        for (Method method : methods) {
            if (!Modifier.isPrivate(method.getModifiers())) {
                run(method);
            }
        }
    }

    private void run(Method test) throws IllegalAccessException {
        int promise = numberOf(test.getName());
        try {
            test.invoke(null);
            passed[promise]++;
        } catch (InvocationTargetException thrown) {
            failed++;
            System.out.println("FAILED: " + test.getName() + ": " + thrown.getCause() + placeIn(thrown.getCause()));
        }
    }

    private static int numberOf(String name) {
        if (!name.matches("promise[0-9]{2}_[a-zA-Z0-9]+")) {
            throw new IllegalArgumentException(name + " is not named by its promise's number");
        }
        return Integer.parseInt(name.substring(7, 9));
    }

    private static String placeIn(Throwable thrown) {
        for (StackTraceElement place : thrown.getStackTrace()) {
            if (place.getClassName().startsWith("EdgesOf")) {
                return " (" + place.getFileName() + ", line " + place.getLineNumber() + ")";
            }
        }
        return "";
    }

    private void end() {
        int all = 0;
        for (int promise = 1; promise <= PROMISES; promise++) {
            System.out.println("promise " + promise + ": " + passed[promise] + " edges hold");
            all += passed[promise];
            if (passed[promise] == 0) {
                failed++;
                System.out.println("FAILED: of promise " + promise + " no edge holds");
            }
        }
        System.out.println("edges: " + all + " hold, " + failed + " do not");
        if (failed != 0) {
            System.exit(1);
        }
    }
}
