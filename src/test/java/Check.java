import java.lang.reflect.InvocationTargetException;
import java.lang.reflect.Method;
import java.lang.reflect.Modifier;
import java.nio.charset.StandardCharsets;
import java.util.Arrays;
import java.util.NoSuchElementException;
import java.util.TreeMap;

/** What the tests share: answers that are due, texts fed and told, and the running of tests that bear names. */
abstract class Check {
    static final long NOTHING = Long.MIN_VALUE;
    static final int LEAST = Integer.MIN_VALUE;
    static final int MOST = Integer.MAX_VALUE;

    private static int wrong = 0;
    private static int made = 0;
    private static String name = "";
    /** Where a test has several parts. */
    static String part = "";

    // ---- answers that are due

    static void due(String call, long got, long want) {
        made++;
        if (got != want) {
            wrong++;
            System.out.println(name + part() + ": " + call + " answered " + got + ", due is " + want);
        }
    }

    static void due(String call, boolean got, boolean want) {
        due(call, got ? 1 : 0, want ? 1 : 0);
    }

    private static String part() {
        return part.isEmpty() ? "" : " (" + part + ")";
    }

    static void same(String what, String got, String want) {
        made++;
        if (!got.equals(want)) {
            wrong++;
            System.out.println(name + part() + ": " + what + " is " + got + ", due is " + want);
        }
    }

    /** A call that wasn't refused. */
    static void taken(RoundedSums x, String call, long got, long want) {
        due(call, got, want);
        due(call + ": trouble", x.trouble(), 0);
        due(call + ": where", x.where(), -1);
    }

    static void taken(RoundedSums x, String call, boolean got) {
        taken(x, call, got ? 1 : 0, 1);
    }

    /** A call that was refused by a number, but not by a FAULT. */
    static void refused(RoundedSums x, String call, long got, long want, int trouble) {
        due(call, got, want);
        due(call + ": trouble", x.trouble(), trouble);
        due(call + ": where", x.where(), -1);
    }

    static void refused(RoundedSums x, String call, boolean got, int trouble) {
        refused(x, call, got ? 1 : 0, 0, trouble);
    }

    static boolean throwsNoSuch(RoundedSums x, int i) {
        try {
            x.doubtful(i);
            return false;
        } catch (NoSuchElementException e) {
            return true;
        }
    }

    // ---- texts

    private static int word(byte[] bytes, int at) {
        return (bytes[at] & 255) << 24 | (bytes[at + 1] & 255) << 16 | (bytes[at + 2] & 255) << 8 | bytes[at + 3] & 255;
    }

    /** As many bytes as are needed, blanks behind the text. */
    static int feed(RoundedSums x, String text) {
        byte[] bytes = text.getBytes(StandardCharsets.ISO_8859_1);
        byte[] padded = Arrays.copyOf(bytes, (bytes.length + 19) / 20 * 20);
        Arrays.fill(padded, bytes.length, padded.length, (byte) ' ');
        int answer = x.size();
        for (int at = 0; at < padded.length; at += 20) {
            answer = x.feed(word(padded, at), word(padded, at + 4), word(padded, at + 8), word(padded, at + 12), word(padded, at + 16));
        }
        return answer;
    }

    static int tell(RoundedSums x, String text) {
        feed(x, text);
        return x.program(text.length());
    }

    static RoundedSums of(String text) {
        RoundedSums x = new RoundedSums();
        int count = tell(x, text);
        if (count < 1) {
            due("program of " + text + " (fault " + x.fault() + " at " + x.where() + ")", count, 1);
        }
        return x;
    }

    /** A TEXT that is a PROGRAM of so many VARIABLES. */
    static void good(String text, int count) {
        RoundedSums x = new RoundedSums();
        taken(x, text, tell(x, text), count);
        due(text + ": fault", x.fault(), 0);
        due(text + ": size", x.size(), 0);
    }

    /** A TEXT that is none, the FAULT and its place: an object with a PROGRAM and one without keep what they have. */
    static void faulty(String text, int fault, int where) {
        RoundedSums x = of("let old=1+2 round 0");
        due(text, tell(x, text), -1);
        due(text + ": trouble", x.trouble(), 4);
        due(text + ": fault", x.fault(), fault);
        due(text + ": where", x.where(), where);
        due(text + ": size", x.size(), 0);
        due(text + ": the old program", x.at(0, 0), 3);
        due(text + ": the fault stays", x.fault(), fault);
        due(text + ": where goes", x.where(), -1);
        RoundedSums y = new RoundedSums();
        due(text + ": told first", tell(y, text), -1);
        due(text + ": told first, fault", y.fault(), fault);
        due(text + ": told first, where", y.where(), where);
        due(text + ": told first, no program", y.about(0), -1);
    }

    /** The same, ^ marking the place. */
    static void faulty(int fault, String marked) {
        faulty(marked.replace("^", ""), fault, marked.indexOf('^'));
    }

    // ---- all that can be seen of an object; its trouble, too, becomes that of the last call here

    static String state(RoundedSums x) {
        StringBuilder s = new StringBuilder();
        for (int what = 0; what <= 4; what++) {
            s.append(x.about(what)).append(' ');
        }
        int noises = x.about(3);
        for (int v = 0; v < x.about(0); v++) {
            s.append("| ");
            for (int what = 0; what <= 6; what++) {
                s.append(x.variable(v, what)).append(' ');
            }
            s.append(x.at(v, 0)).append(' ').append(x.at(v, 1)).append(' ').append(x.bound(v)).append(' ').append(x.may(v)).append(' ');
            for (int noise = -1; noise < noises; noise++) {
                s.append(x.form(v, false, noise)).append(' ').append(x.form(v, true, noise)).append(' ');
            }
        }
        return s.toString();
    }

    // ---- tests that bear names

    /** Runs every method of the class whose name begins with promise, and ends the program. */
    static void runAll(Class<? extends Check> tests) {
        TreeMap<String, Method> byName = new TreeMap<>();
        for (Method m : tests.getDeclaredMethods()) {
            if (m.getName().startsWith("promise") && Modifier.isStatic(m.getModifiers())) {
                byName.put(m.getName(), m);
            }
        }
        for (Method m : byName.values()) {
            run(m);
        }
        end(byName.size());
    }

    private static void run(Method m) {
        name = m.getName();
        part = "";
        int before = made;
        try {
            m.setAccessible(true);
            m.invoke(null);
        } catch (IllegalAccessException e) {
            due(name + " can't be called", 1, 0);
        } catch (InvocationTargetException e) {
            due(name + " ended by " + e.getCause(), 1, 0);
        }
        if (made == before) {
            due(name + " looks at nothing", 1, 0);
        }
    }

    private static void end(int tests) {
        System.out.println(tests + " tests, " + made + " answers: " + (wrong == 0 ? "all are as due" : wrong + " are not as due"));
        if (wrong != 0 || tests == 0) {
            System.exit(1);
        }
    }
}
