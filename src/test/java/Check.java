import java.lang.reflect.InvocationTargetException;
import java.lang.reflect.Method;
import java.lang.reflect.Modifier;
import java.util.Arrays;
import java.util.Comparator;
import java.util.NoSuchElementException;

/** What the tests share: feeding texts, and noting every answer that is not the one that is due. */
final class Check {
    /** Three slides and three hearers, as most tests use them. */
    static final String HALL =
        "slide crown 6 9 9 6 10; slide tower 8 12 14 15 12; slide eagle 15 0 15 0 20;"
        + "hearer ann front 2; hearer bob behind 1; hearer cid front 3;"
        + "likes ann 1 0; likes ann 0 1; hates ann 3 3; likes bob 0 3; hates bob 0 0; likes cid 2 2;"
        + "near ann cid; after eagle crown; pass 2; spread 1; lamp 30;";

    private static int asked;
    private static int wrong;
    /** The test that is run now, where a class has one method for each. */
    private static String running = "";

    private Check() {
    }

    static void due(String call, long got, long want) {
        asked++;
        if (got != want) {
            wrong++;
            System.out.println(running + call + " answered " + got + ", due is " + want);
        }
    }

    static void due(String call, boolean got, boolean want) {
        due(call, got ? 1 : 0, want ? 1 : 0);
    }

    static void finish(String name) {
        System.out.println(name + ": " + asked + " answers, " + wrong + " not as due");
        if (wrong != 0) {
            System.exit(1);
        }
    }

    /** Runs every method of a class that takes nothing, each as a test of its own. */
    static void runAll(Class<?> tests) throws IllegalAccessException {
        Method[] methods = tests.getDeclaredMethods();
        Arrays.sort(methods, Comparator.comparing(Method::getName));
        for (Method m : methods) {
            if (m.getParameterCount() == 0 && Modifier.isStatic(m.getModifiers()) && m.getReturnType() == void.class) {
                running = m.getName() + ": ";
                m.setAccessible(true);
                int before = asked;
                try {
                    m.invoke(null);
                } catch (InvocationTargetException e) {
                    wrong++;
                    System.out.println(running + "threw " + e.getCause());
                }
                due("asks something", asked > before, true);
            }
        }
        running = "";
        finish(tests.getName());
    }

    /** A text without its mark ^, which stands where its FAULT is. */
    private static String unmarked(String text) {
        return text.replace("^", "");
    }

    /** Neither the SESSION nor what happened in it is changed by a text that has a FAULT at the mark. */
    static void sessionRefused(String marked, int kind) {
        LanternState x = of("slide old 1 2 3 4 5;lamp 77;");
        x.hours(3);
        sentence(x, "not so");
        due("session '" + marked + "'", session(x, unmarked(marked)), -1 - marked.indexOf('^'));
        due("fault()", x.fault(), kind);
        due("the tape is empty", x.count(6), 0);
        due("the SESSION stays", x.count(0) * 100 + x.count(5), 177);
        due("the HOUR stays", x.now(0), 3);
        due("the SENTENCE stays", x.said(-1), 1);
        due("what can be undone stays", x.undo(), 0);
    }

    /** Nothing is lived, and what was told last stays. */
    static void bookRefused(String cast, String marked, int kind) {
        LanternState x = of(cast);
        due("a book ahead", book(x, "hour 2;hour 3;", 0), -1);
        due("book '" + marked + "'", book(x, unmarked(marked), 1), -2 - marked.indexOf('^'));
        due("fault()", x.fault(), kind);
        due("the tape is empty", x.count(6), 0);
        due("nothing is lived", x.now(0), 0);
        due("nothing can be undone", x.undo(), -1);
        due("told(1) stays", x.told(1), 2);
        due("told(2) stays", x.told(2), 5);
    }

    /** The SENTENCE stays. */
    static void sentenceRefused(String cast, String marked, int kind) {
        LanternState x = of(cast);
        due("a sentence ahead", sentence(x, "number = 0"), 1);
        due("sentence '" + marked + "'", sentence(x, unmarked(marked)), -1 - marked.indexOf('^'));
        due("fault()", x.fault(), kind);
        due("the tape is empty", x.count(6), 0);
        due("the SENTENCE stays", x.said(-1), 1);
    }

    /** The text fits as a SESSION, and has so many LINES. */
    static LanternState fits(String text, int lines) {
        LanternState x = new LanternState();
        due("session '" + text + "'", session(x, text), lines);
        due("fault()", x.fault(), 0);
        due("the tape is empty", x.count(6), 0);
        return x;
    }

    /** Puts bytes behind the tape, in twenties, and cuts what is over. */
    static void feed(LanternState x, byte[] bytes) {
        int ahead = x.count(6);
        for (int from = 0; from < bytes.length; from += 20) {
            int[] five = new int[5];
            for (int i = 0; i < 20; i++) {
                int b = from + i < bytes.length ? bytes[from + i] & 255 : 0;
                five[i / 4] |= b << 24 - 8 * (i % 4);
            }
            x.feed(five[0], five[1], five[2], five[3], five[4]);
        }
        due("end(" + (ahead + bytes.length) + ")", x.end(ahead + bytes.length), true);
    }

    static byte[] bytes(String text) {
        return text.getBytes(java.nio.charset.StandardCharsets.ISO_8859_1);
    }

    static int session(LanternState x, String text) {
        feed(x, bytes(text));
        return x.session();
    }

    static int book(LanternState x, String text, int lives) {
        feed(x, bytes(text));
        return x.book(lives);
    }

    static int sentence(LanternState x, String text) {
        feed(x, bytes(text));
        return x.sentence();
    }

    static int seen(LanternState x, int... rows) {
        byte[] bytes = new byte[rows.length];
        for (int i = 0; i < rows.length; i++) {
            bytes[i] = (byte) rows[i];
        }
        feed(x, bytes);
        return x.seen();
    }

    static LanternState hall() {
        return of(HALL);
    }

    static LanternState of(String text) {
        LanternState x = new LanternState();
        int lines = session(x, text);
        due("lines of a session that fits", lines >= 0, true);
        return x;
    }

    static String bill(LanternState x, int s) {
        int size = x.bill(s);
        StringBuilder text = new StringBuilder();
        for (int i = 0; i < size; i++) {
            text.append((char) x.byteAt(i));
        }
        due("byteAt behind the bill", x.byteAt(size), LanternState.NONE);
        due("byteAt ahead of the bill", x.byteAt(-1), LanternState.NONE);
        return text.toString();
    }

    static void dueText(String call, String got, String want) {
        asked++;
        if (!got.equals(want)) {
            wrong++;
            System.out.println(running + call + " told '" + got + "', due is '" + want + "'");
        }
    }

    static boolean slideThrows(LanternState x, int s, int what) {
        try {
            x.slide(s, what);
            return false;
        } catch (NoSuchElementException e) {
            return true;
        }
    }

    static boolean hearerThrows(LanternState x, int h, int what) {
        try {
            x.hearer(h, what);
            return false;
        } catch (NoSuchElementException e) {
            return true;
        }
    }

    static String times(String text, int n) {
        return text.repeat(n);
    }
}
