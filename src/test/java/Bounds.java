import java.lang.reflect.InvocationTargetException;
import java.lang.reflect.Method;
import java.util.NoSuchElementException;
import java.util.TreeMap;

/**
 * What the tests of boundary cases share. A test is a static method without parameters whose name is
 * p, the two digits of its promise, _ and the case: each runs alone, on objects of its own.
 */
class Bounds {
    static final int NONE = -1;
    static final int LOW = Integer.MIN_VALUE;
    static final int HIGH = Integer.MAX_VALUE;
    /** Stands for the NoSuchElementException of row. */
    static final long THROWN = Long.MIN_VALUE;
    /** Far beyond each limit, and where a shift of an int or a long would wrap round. */
    static final int[] FAR_OFF = {LOW, LOW + 1, -65536, -256, -64, -33, -32, 48, 63, 64, 65, 100, 128, 256, 65536, HIGH - 1, HIGH};

    private static String running = "";
    private static int wrong = 0;

    /** Runs all tests of a class; each of the promises from .. to must have one. */
    static void runAll(Class<?> tests, int from, int to) {
        TreeMap<String, Method> all = new TreeMap<>();
        for (Method m : tests.getDeclaredMethods()) {
            if (m.getName().matches("p[0-9]{2}_.+")) {
                all.put(m.getName(), m);
            }
        }
        for (Method m : all.values()) {
            runOne(m);
        }
        running = tests.getName();
        for (int promise = from; promise <= to; promise++) {
            String start = String.format("p%02d_", promise);
            String next = all.ceilingKey(start);
            due("promise " + promise + " has a test", next != null && next.startsWith(start), true);
        }
        System.out.println(all.size() + " tests, " + (wrong == 0 ? "all answers are as due" : wrong + " answers are not as due"));
        if (wrong != 0) {
            System.exit(1);
        }
    }

    private static void runOne(Method test) {
        running = test.getName();
        try {
            test.setAccessible(true);
            test.invoke(null);
        } catch (InvocationTargetException e) {
            wrong++;
            System.out.println(running + " broke off: " + e.getCause());
        } catch (IllegalAccessException e) {
            wrong++;
            System.out.println(running + " can't be run: " + e);
        }
    }

    static void due(String what, long got, long want) {
        if (got != want) {
            wrong++;
            System.out.println(running + ": " + what + " answered " + got + ", due is " + want);
        }
    }

    static void due(String what, boolean got, boolean want) {
        due(what, got ? 1 : 0, want ? 1 : 0);
    }

    static void due(String what, String got, String want) {
        if (!got.equals(want)) {
            wrong++;
            System.out.println(running + ": " + what + " answered " + got + ", due is " + want);
        }
    }

    static void dueRow(String what, HueAndCry x, int... want) {
        due(what + ": length of the row", x.count(7), want.length);
        for (int i = 0; i < want.length; i++) {
            due(what + ": row(" + i + ")", number(x, i), want[i]);
        }
        due(what + ": row behind its end", number(x, want.length), THROWN);
    }

    /** Number i of the row; THROWN, if the call throws what is due. */
    static long number(HueAndCry x, int i) {
        try {
            return x.row(i);
        } catch (NoSuchElementException e) {
            return THROWN;
        }
    }

    static HueAndCry parishes(int n) {
        HueAndCry x = new HueAndCry();
        for (int i = 0; i < n; i++) {
            x.parish(0);
        }
        return x;
    }

    /** Parishes of county 0 and roads, three numbers each: two ends, hours. He starts at 0. */
    static HueAndCry land(int parishes, int... roads) {
        HueAndCry x = parishes(parishes);
        for (int i = 0; i < roads.length; i += 3) {
            x.road(roads[i], roads[i + 1], roads[i + 2]);
        }
        x.begin(0);
        return x;
    }

    /** A line of parishes, each a road of one hour from the next. */
    static HueAndCry line(int parishes) {
        HueAndCry x = land(parishes);
        for (int i = 0; i + 1 < parishes; i++) {
            x.road(i, i + 1, 1);
        }
        return x;
    }

    static void put(HueAndCry x, String text) {
        int from = x.count(8);
        for (int i = 0; i < text.length(); i += 4) {
            int v = 0;
            for (int j = i; j < i + 4; j++) {
                v = v << 8 | (j < text.length() ? text.charAt(j) & 255 : 0);
            }
            x.sign(v);
        }
        x.end(from + text.length());
    }

    static int enact(HueAndCry x, String text) {
        put(x, text);
        return x.act();
    }

    static int five(int a, int b, int c) {
        return a << 10 | b << 5 | c;
    }
}
