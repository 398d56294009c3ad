import java.lang.reflect.InvocationTargetException;
import java.lang.reflect.Method;
import java.util.Arrays;
import java.util.Comparator;

/** Runs the edge tests of a class: each static method whose name begins with "promise" and the promise's number. */
final class Edges {
    /** Numbers at and beyond the ends of the document's ranges, and such as only a cast would make good. */
    static final int[] WIDE = {
        Integer.MIN_VALUE, -104, -101, -3, -2, -1, 0, 1, 2, 3, 4, 5, 7, 8, 9, 10, 12, 13, 50, 51, 60, 61, 99, 100,
        256, 65536, Integer.MAX_VALUE};

    /** The same, fewer: for calls with three numbers. */
    static final int[] FEW = {Integer.MIN_VALUE, -2, -1, 0, 1, 4, 5, 7, 8, 12, 13, 50, 51, 60, 61, Integer.MAX_VALUE};

    private Edges() {
    }

    static void run(Class<?> tests, int first, int last) throws IllegalAccessException, InvocationTargetException {
        Method[] methods = tests.getDeclaredMethods();
        Arrays.sort(methods, Comparator.comparing(Method::getName));
        int[] ran = new int[28];
        for (Method method : methods) {
            String name = method.getName();
            if (name.startsWith("promise")) {
                ran[Integer.parseInt(name.substring(7, 9))]++;
                Check.begin(name);
                method.setAccessible(true);
                method.invoke(null);
            }
        }
        Check.begin(tests.getName());
        for (int promise = 1; promise < ran.length; promise++) {
            boolean here = promise >= first && promise <= last;
            Check.due("tests of promise " + promise, ran[promise] > 0 ? 1 : 0, here ? 1 : 0);
        }
        Check.end();
    }

    static boolean outOf(int number, int least, int most) {
        return number < least || number > most;
    }

    static boolean noCell(int number) {
        return outOf(number, 0, 7);
    }
}
