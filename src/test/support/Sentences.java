import java.lang.reflect.InvocationTargetException;
import java.lang.reflect.Method;
import java.util.Arrays;
import java.util.Comparator;

/**
 * What the tests of the promises share. Each sentence of the document has a method of its own, named
 * promiseNN_whatItSays. A method that throws is as wrong as one whose answer is not the one that is due.
 */
abstract class Sentences {
    static final int NONE = -1, BAD = -2, NO = -3, FULL = -4, ENDLESS = -5;
    static final int BAD_HERE = -10, CHAIN_END = -3, TOO_FEW = -5;
    static final int INNER = 0, WHOLE = 1;
    static final int NEVER = 0, ONCE = 1, TO_THE_END = 2, AS_THE_OTHER = 3;
    static final int ALL = 15625;
    static final int LEAST_INT = Integer.MIN_VALUE, GREATEST_INT = Integer.MAX_VALUE;

    // Of whom an END is: this LAND, a LAND, the LAND of a TIE.
    static final int THIS = 0, LAND = 1, OF_TIE = 5;

    // What a TEST wants: a LAND, or the same as a TIE.
    static final int TOLD = 0, UNTOLD = 1, HERE = 2, ELSEWHERE = 3, IS_LAND = 4, AS_TIE = 8;

    private static int wrong = 0;
    private static String running = "";

    static void due(String what, long got, long want) {
        if (got != want) complain(what + " answered " + got + ", due is " + want);
    }

    static void complain(String what) {
        wrong++;
        System.out.println(running + ": " + what);
    }

    /** Runs every sentence of the class; each promise from first to last must have one. */
    static void runAll(Class<?> tests, int first, int last) {
        Method[] methods = tests.getDeclaredMethods();
        Arrays.sort(methods, Comparator.comparing(Method::getName));
        int run = 0;
        boolean[] tested = new boolean[last + 1];
        for (Method m : methods) {
            if (!m.getName().matches("promise\\d\\d_.*")) continue;
            int promise = Integer.parseInt(m.getName().substring(7, 9));
            if (promise >= first && promise <= last) tested[promise] = true;
            else complain(m.getName() + " is not of these promises");
            runOne(m);
            run++;
        }
        for (int p = first; p <= last; p++) {
            if (!tested[p]) complain("promise " + p + " has no test");
        }
        System.out.println(run + " sentences of promises " + first + " to " + last + ", "
            + (wrong == 0 ? "all hold" : wrong + " answers are not as due"));
        if (wrong != 0) System.exit(1);
    }

    private static void runOne(Method m) {
        running = m.getName();
        try {
            m.setAccessible(true);
            m.invoke(null);
        } catch (InvocationTargetException e) {
            complain("threw " + e.getCause());
        } catch (IllegalAccessException e) {
            complain("cannot be called");
        }
        running = "";
    }

    static int power5(int n) {
        int p = 1;
        for (int i = 0; i < n; i++) p *= 5;
        return p;
    }

    /** The number, in ALL CASES, of the one with these TIES (NONE or a LAND, TIE 0 first; those left out are none). */
    static int number(int... ties) {
        int n = 0;
        for (int t = 0; t < ties.length; t++) n += (1 + ties[t]) * power5(t);
        return n;
    }
}
