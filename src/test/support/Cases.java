import java.lang.reflect.InvocationTargetException;
import java.lang.reflect.Method;
import java.lang.reflect.Modifier;
import java.util.ArrayList;
import java.util.List;
import java.util.NoSuchElementException;
import java.util.TreeMap;

/** What the tests of boundary cases share: answers that are due, refused calls, texts, and scenes to begin from. */
class Cases {
    static final int NONE = -1;
    static final Class<? extends RuntimeException> INDEX = IndexOutOfBoundsException.class;
    static final Class<? extends RuntimeException> ELEMENT = NoSuchElementException.class;
    static final Class<? extends RuntimeException> ARGUMENT = IllegalArgumentException.class;
    static final Class<? extends RuntimeException> STATE = IllegalStateException.class;
    static final Class<? extends RuntimeException> UNSUPPORTED = UnsupportedOperationException.class;

    private static int asked = 0;
    private static int wrong = 0;
    private static String test = "";

    interface Call {
        void on(CopiedPages x);
    }

    interface Scene {
        CopiedPages make();
    }

    // ---- running

    /** Runs every method whose name is promiseN.. of a class of tests; each promise of the range must have one. */
    static void run(Class<?> tests, int first, int last) {
        TreeMap<String, Method> methods = new TreeMap<>();
        boolean[] tested = new boolean[last + 1];
        for (Method m : tests.getDeclaredMethods()) {
            int n = promiseOf(m.getName());
            if (n >= first && n <= last && Modifier.isStatic(m.getModifiers())) {
                methods.put(String.format("%02d %s", n, m.getName()), m);
                tested[n] = true;
            }
        }
        for (Method m : methods.values()) {
            runOne(m);
        }
        test = "all";
        for (int n = first; n <= last; n++) {
            due("promise " + n + " has a test", tested[n], true);
        }
        System.out.println(methods.size() + " tests of promises " + first + " to " + last + ", " + asked
                + " answers, " + wrong + " wrong");
        if (wrong > 0) {
            System.exit(1);
        }
    }

    private static void runOne(Method m) {
        test = m.getName();
        m.setAccessible(true);
        try {
            m.invoke(null);
        } catch (InvocationTargetException e) {
            say("ended by " + e.getCause());
            e.getCause().printStackTrace(System.out);
        } catch (IllegalAccessException e) {
            say("cannot be run");
        }
    }

    private static int promiseOf(String name) {
        int n = 0;
        for (int i = "promise".length(); name.startsWith("promise") && i < name.length(); i++) {
            if (!Character.isDigit(name.charAt(i))) {
                return n;
            }
            n = 10 * n + name.charAt(i) - '0';
        }
        return n;
    }

    private static void say(String what) {
        wrong++;
        System.out.println(test + ": " + what);
    }

    // ---- answers

    static void due(String what, long got, long want) {
        asked++;
        if (got != want) {
            say(what + " answered " + got + ", due is " + want);
        }
    }

    static void due(String what, boolean got, boolean want) {
        asked++;
        if (got != want) {
            say(what + " answered " + got + ", due is " + want);
        }
    }

    /** The exception of the call by its very class, or null. */
    private static String thrownBy(CopiedPages x, Call call) {
        try {
            call.on(x);
        } catch (RuntimeException e) {
            return e.getClass().getName();
        }
        return null;
    }

    /** The call throws; what it leaves is for the test to ask. */
    static void dueRefused(String what, Class<?> want, CopiedPages x, Call call) {
        asked++;
        String got = thrownBy(x, call);
        if (!want.getName().equals(got)) {
            say(what + " threw " + got + ", due is " + want.getName());
        }
    }

    // ---- refused calls

    /** The call throws, and all is as if it had not been made, the TAPE too. */
    static void refused(String what, Class<?> want, Scene scene, Call call) {
        CopiedPages x = scene.make();
        int fault = x.fault();
        dueRefused(what, want, x, call);
        due(what + ": fault()", x.fault(), fault);
        same(what, x, scene.make());
    }

    /** The same from a scene in which much is at stake. */
    static void refused(String what, Class<?> want, Call call) {
        refused(what, want, Cases::busy, call);
    }

    /** The call throws and uses the TAPE up; but for that, and fault(), all is as if it had not been made. */
    static void refusedTape(String what, Class<?> want, Scene scene, Call call, int fault, int... bytes) {
        CopiedPages x = scene.make();
        type(x, bytes);
        dueRefused(what, want, x, call);
        due(what + ": fault()", x.fault(), fault);
        due(what + ": the TAPE is used up", x.end(1), false);
        CopiedPages other = scene.make();
        other.end(0);
        same(what, x, other);
    }

    /** A text with ^ ahead of its first wrong byte. */
    static void wrongWork(String marked) {
        wrongText(marked, x -> x.work());
    }

    static void wrongLaw(String marked) {
        wrongText(marked, x -> x.law());
    }

    private static void wrongText(String marked, Call call) {
        int fault = marked.indexOf('^');
        String text = marked.substring(0, fault) + marked.substring(fault + 1);
        refusedTape("'" + text + "'", ARGUMENT, Cases::busy, call, fault, bytesOf(text));
    }

    /** Nothing tells both objects apart: now, with each act undone, in THE IMAGE, and by the TAPE. */
    static void same(String what, CopiedPages x, CopiedPages other) {
        samePicture(what, x, other);
        due(what + ": the TAPE's length", tapeLength(x), tapeLength(other));
        for (int i = 1; i <= 13; i++) {
            boolean undone = other.undo();
            due(what + ": undo " + i, x.undo(), undone);
            if (!undone) {
                break;
            }
            samePicture(what + ", undone " + i, x, other);
        }
        due(what + ": back()", x.back(), other.back());
        samePicture(what + ", gone back", x, other);
        due(what + ": the TAPE as a text", textOutcome(x), textOutcome(other));
        samePicture(what + ", the TAPE read", x, other);
    }

    private static int textOutcome(CopiedPages x) {
        return thrownBy(x, y -> y.work()) == null ? NONE : x.fault();
    }

    static int tapeLength(CopiedPages x) {
        for (int n = 400; n > 0; n--) {
            if (x.end(n)) {
                return n;
            }
        }
        return 0;
    }

    static void samePicture(String what, CopiedPages x, CopiedPages other) {
        List<Integer> one = picture(x);
        List<Integer> two = picture(other);
        asked++;
        if (!one.equals(two)) {
            int at = 0;
            while (at < one.size() && at < two.size() && one.get(at).equals(two.get(at))) {
                at++;
            }
            say(what + ": all should be as it was; unlike at " + at + " of the picture: " + one + " and " + two);
        }
    }

    /** All that can be asked without changing anything, but for the TAPE, fault(), what is undone and THE IMAGE. */
    private static List<Integer> picture(CopiedPages x) {
        List<Integer> p = new ArrayList<>();
        for (int what = 0; what < 12; what++) {
            p.add(x.count(what));
        }
        int seed = x.seed(0);
        x.seed(seed);
        p.add(seed);
        for (int page = 0; page < 48; page++) {
            for (int what = 0; what < 8; what++) {
                p.add(x.page(page, what));
            }
            for (int k = 0; k < x.page(page, 1); k++) {
                p.add(x.entry(page, k, false));
                p.add(x.entry(page, k, true));
            }
        }
        for (int what = 0; what < 4; what++) {
            p.add(x.head(0, what));
            p.add(x.head(1, what));
        }
        for (int reader = 0; reader < 4; reader++) {
            p.add(x.reader(reader));
            p.add(x.reader(reader) == NONE ? NONE : x.tree(reader, 3));
        }
        p.add(x.tree(4, 3));
        for (int k = 0; k < x.count(1); k++) {
            p.add(x.change(k, 0));
            p.add(x.change(k, 1));
        }
        for (int ago = 0; ago < x.count(10); ago++) {
            for (int what = 0; what < 4; what++) {
                p.add(x.log(ago, what));
            }
        }
        p.add(x.comes());
        return p;
    }

    // ---- texts

    static int[] bytesOf(String text) {
        return text.chars().toArray();
    }

    /** The TAPE has these bytes alone. */
    static void type(CopiedPages x, int... bytes) {
        x.end(0);
        for (int i = 0; i < bytes.length; i += 20) {
            int[] n = new int[5];
            for (int k = 0; k < 20; k++) {
                int b = i + k < bytes.length ? bytes[i + k] : 0;
                n[k / 4] |= b << (24 - 8 * (k % 4));
            }
            x.feed(n[0], n[1], n[2], n[3], n[4]);
        }
        x.end(bytes.length);
    }

    static void type(CopiedPages x, String text) {
        type(x, bytesOf(text));
    }

    static int work(CopiedPages x, String text) {
        type(x, text);
        return x.work();
    }

    static int law(CopiedPages x, String text) {
        type(x, text);
        return x.law();
    }

    /** One line again and again. */
    static String lines(String line, int n) {
        StringBuilder b = new StringBuilder(line);
        for (int i = 1; i < n; i++) {
            b.append(';').append(line);
        }
        return b.toString();
    }

    static void put(CopiedPages x, int... keysAndValues) {
        for (int i = 0; i + 1 < keysAndValues.length; i += 2) {
            x.put(keysAndValues[i], keysAndValues[i + 1]);
        }
    }

    /** SEED after so many draws. */
    static int drawn(int seed, int draws) {
        int s = seed;
        for (int i = 0; i < draws; i++) {
            s = s * 1103515245 + 12345;
        }
        return s;
    }

    /** What the next draw from a SEED tells. */
    static int draw(int seed) {
        return drawn(seed, 1) >> 16 & 0x7fff;
    }

    // ---- scenes

    static CopiedPages fresh() {
        return new CopiedPages();
    }

    /** Version 1 on page 2, reader 1 on it; version 2 with root 3, leaves 4 and 5, slip 6 with a row of page 2. */
    static CopiedPages twoVersions() {
        CopiedPages x = new CopiedPages();
        work(x, "put 10 1 20 2 30 3");
        x.open(1);
        put(x, 40, 4, 50, 5);
        x.commit();
        return x;
    }

    /** Readers on three versions, a law, an image, changes that wait, acts to undo, a text on the TAPE. */
    static CopiedPages busy() {
        CopiedPages x = new CopiedPages();
        work(x, "put 10 1 20 2 30 3");
        law(x, "risk 10 if head;cost 3 if slip");
        x.open(1);
        put(x, 40, 4, 50, 5);
        x.commit();
        x.image();
        x.open(0);
        put(x, 60, 6);
        x.commit();
        put(x, 70, 7, 10, 100);
        x.risk(35);
        x.open(3);
        x.seed(4242);
        type(x, "put 33 7");
        return x;
    }

    /**
     * Reader 0 on version 0 keeps every page, and versions of key 1 use the disk up: HIGH is 3, 5, 7, 9, 12, 15,
     * 19, 23, 28, 34, 41 after them.
     */
    static CopiedPages versionsKept(int versions) {
        CopiedPages x = new CopiedPages();
        x.open(0);
        for (int i = 1; i <= versions; i++) {
            put(x, 1, i);
            x.commit();
        }
        return x;
    }

    /** HIGH 41, leaf 34, slips 35 to 40, 32 rows that wait: one more leaf needs eight pages, and seven are left. */
    static CopiedPages nearlyFull() {
        return versionsKept(11);
    }

    /** The same with HIGH 48: the key was dropped, which took seven slips. */
    static CopiedPages usedUp() {
        CopiedPages x = nearlyFull();
        put(x, 1, 100);
        x.commit();
        return x;
    }

    /**
     * Version 7: root 2 of the leaves 3 to 6 with keys 1 to 11, slips 7 (of six rows) and 8 (of none). Of eight rows
     * one slip takes one, and seven have no room in it; a second one takes one more, and six have room in the first.
     */
    static CopiedPages lastSlipEmpty() {
        CopiedPages x = versionsKept(6);
        x.close(0);
        put(x, 2, 2, 3, 3, 4, 4, 5, 5, 6, 6, 7, 7, 8, 8, 9, 9, 10, 10, 11, 11);
        x.commit();
        return x;
    }
}
