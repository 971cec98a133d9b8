import java.lang.reflect.InvocationTargetException;
import java.lang.reflect.Method;
import java.util.Map;
import java.util.TreeMap;

/**
 * Runs tests of edges: each method whose name begins with "promise" and a number tests one
 * sentence of that promise, or of what the document's Terms say of its words. What is due is
 * written as the document tells it, by number, so that no constant of the class answers for it.
 */
class Edges {
    static final int MIN = Integer.MIN_VALUE, MAX = Integer.MAX_VALUE;
    static final int NONE = -1, BAD = -2, STATE = -3, FULL = -4;
    static final int NO_SUCH = -5, NO_CASK = -6, NOT_SO = -7;
    static final int NOTHING = -11, OUTSIDE = -12, UNLIKE = -13, BELOW_ZERO = -14, UNKNOWN = -1000;
    static final long NO = -4611686018427387904L;
    /** By HOUR 999 1 fades of each SORT, by 1000 2, and so on. */
    static final String BY_LATE_HOURS = "reaches 99;costs 0;fades hour-998;";
    static final String ALL_STAYS = "reaches 99;costs 0;fades 0;";

    private static Due due;
    private static String running;

    /** Runs all tests of a class; each promise from first to last must have one. */
    static void run(Class<?> tests, int first, int last) {
        due = new Due(tests.getSimpleName());
        Map<String, Method> found = new TreeMap<>();
        for (Method method : tests.getDeclaredMethods()) {
            if (method.getName().matches("promise[0-9]+.+")) {
                found.put(method.getName(), method);
            }
        }
        for (int promise = first; promise <= last; promise++) {
            running = "promise " + promise;
            boolean isTested = false;
            for (String name : found.keySet()) {
                isTested |= name.matches("promise" + promise + "[^0-9].*");
            }
            is("has a test", isTested ? 1 : 0, 1);
        }
        for (Method method : found.values()) {
            running = method.getName();
            run(method);
        }
        due.end();
    }

    private static void run(Method test) {
        try {
            test.setAccessible(true);
            test.invoke(null);
        } catch (InvocationTargetException e) {
            throw new IllegalStateException(running, e.getCause());
        } catch (IllegalAccessException e) {
            throw new IllegalStateException(running, e);
        }
    }

    static void is(String call, long got, long want) {
        due.is(running + ": " + call, got, want);
    }

    static SalvageOfDays fresh() {
        return new SalvageOfDays();
    }

    /** What lies just beyond on either side, and as far beyond as an int can. */
    static int[] beyond(int least, int most) {
        return new int[] {least - 1, most + 1, MIN, MAX};
    }

    /** CASKS come to the QUAY, by no one. */
    static void toQuay(SalvageOfDays x, int... casks) {
        for (int k : casks) {
            x.cask(k, 3, 1);
        }
    }

    static void allTo(SalvageOfDays x, int place) {
        for (int k = 0; k < 12; k++) {
            x.cask(k, 3, place);
        }
    }

    static void skyOf(SalvageOfDays x, int... weather) {
        for (int t = 0; t < weather.length; t++) {
            x.sky(t, weather[t]);
        }
    }

    /** A SHEET of ints with n numbers, all 0. */
    static void zeros(SalvageOfDays x, int s, int n) {
        x.sheet(s, 2, n);
    }
}
