import java.lang.reflect.InvocationTargetException;
import java.lang.reflect.Method;
import java.lang.reflect.Modifier;
import java.util.Arrays;
import java.util.Comparator;
import java.util.NoSuchElementException;

/** What the tests share: texts that are read, answers held against what is due, all of an object at once. */
final class Bench {
    static final int NONE = HoseDynasty.NONE;
    static final int FAULT_1 = -9;
    static final int FAULT_2 = -8;
    static final int FAULT_3 = -7;
    static final int[] FAR_OFF = {Integer.MIN_VALUE, Integer.MIN_VALUE + 1, -1000000, 1000000, Integer.MAX_VALUE};

    /** A HOUSE that is full, of PIECES, COLLARS and FIRES. */
    static final String FULL = "piece 10 1 2 3;piece 20 2 3 5;piece 5 3 1 0;piece 8 4 4 9;piece 30 9 0 1;piece 1 0 9 2;"
        + "collar 1 4;collar 4 7;collar 0 9;collar 5 6;"
        + "fire 30 40;fire 10 70;fire 0 60;fire 200 99;fire 0 1;hope 61;";

    interface Call { void on(HoseDynasty x); }

    interface Maker { HoseDynasty make(); }

    enum Kind { HOUSE, LAW, WORK, BOOK }

    private static String test = "";
    private static int wrong;

    private Bench() {
    }

    static void due(String what, long got, long want) {
        if (got != want) {
            tell(what + " answered " + got + ", due is " + want);
        }
    }

    static void due(String what, boolean got, boolean want) {
        due(what, got ? 1 : 0, want ? 1 : 0);
    }

    static void dueText(String what, String got, String want) {
        if (!got.equals(want)) {
            tell(what + " was\n  " + got + "\ndue is\n  " + want);
        }
    }

    private static void tell(String text) {
        wrong++;
        System.out.println(test + ": " + text);
    }

    /** Feeds a text; what fills the last twenty bytes is 0, which can stand nowhere. */
    static int feed(HoseDynasty x, String text) {
        for (int i = 0; i < text.length(); i += 20) {
            int[] five = new int[5];
            for (int k = 0; k < 20; k++) {
                five[k / 4] = five[k / 4] << 8 | (i + k < text.length() ? text.charAt(i + k) : 0);
            }
            x.feed(five[0], five[1], five[2], five[3], five[4]);
        }
        return text.length();
    }

    static int read(HoseDynasty x, Kind kind, String text) {
        return readFed(x, kind, feed(x, text));
    }

    static int readFed(HoseDynasty x, Kind kind, int n) {
        switch (kind) {
            case HOUSE: return x.house(n);
            case LAW: return x.law(n);
            case WORK: return x.work(n);
            default: return x.book(n);
        }
    }

    static int house(HoseDynasty x, String text) {
        return read(x, Kind.HOUSE, text);
    }

    static int law(HoseDynasty x, String text) {
        return read(x, Kind.LAW, text);
    }

    static int work(HoseDynasty x, String text) {
        return read(x, Kind.WORK, text);
    }

    static int book(HoseDynasty x, String text) {
        return read(x, Kind.BOOK, text);
    }

    /** A new object with such a HOUSE, on which such WORKS were done. */
    static HoseDynasty of(String house, String... works) {
        HoseDynasty x = new HoseDynasty();
        due("house " + house, house(x, house) >= 0, true);
        for (String text : works) {
            due("work " + text, work(x, text) >= 0, true);
        }
        return x;
    }

    /** PIECES that all fit, of LENGTH 1, without LOSS. */
    static String plain(int many) {
        return "piece 1 0 0 0;".repeat(many);
    }

    /** An object that has something of all: HOUSE, LAW, BOOK, WORKS, IMAGES, STEPS that were REFUSED, bytes, a FAULT. */
    static HoseDynasty rich() {
        HoseDynasty x = of(FULL, "hour;lay 0;lay 1;turn 2;turn 5;bend 0 2;burst 1;hour;lift;", "lay 1;hope 77;hour;");
        law(x, "flow - loss - bends * 3 - burst * 4 + turned");
        book(x, "0 60;");
        x.image();
        work(x, "patch 1;lift;burst 3;burst 3;hour;lift;lift;lift;bend 4 9;");
        x.image();
        work(x, "lay 3;lay 3;lay 0;turn 3;turn 1;");
        law(x, "flow +");
        feed(x, "hope 33;hope 34;hope 35;");
        return x;
    }

    /** Good: no FAULT; the answer is 0 or more. */
    static void good(Maker maker, Kind kind, String text) {
        HoseDynasty x = maker.make();
        due(kind + " '" + text + "' is read", read(x, kind, text) >= 0, true);
        due("fault behind " + kind + " '" + text + "'", x.fault(), NONE);
    }

    static void bad(Maker maker, Kind kind, String text, int answer, int at) {
        HoseDynasty x = maker.make();
        due(kind + " '" + text + "'", read(x, kind, text), answer);
        due("fault of " + kind + " '" + text + "'", x.fault(), at);
        due("bytes behind " + kind + " '" + text + "'", x.count(1), 0);
        due("works behind " + kind + " '" + text + "'", x.count(2), 0);
    }

    /** The last number that is allowed and the first that is not, on both sides, and those that wrap to an allowed one. */
    static void range(Maker maker, Kind kind, String ahead, int low, int high, String behind) {
        int at = ahead.length();
        good(maker, kind, ahead + low + behind);
        good(maker, kind, ahead + high + behind);
        good(maker, kind, ahead + "000" + high + behind);
        bad(maker, kind, ahead + (high + 1) + behind, FAULT_2, at);
        bad(maker, kind, ahead + (high + 1) + "?", FAULT_2, at);
        bad(maker, kind, ahead + (4294967296L + low) + behind, FAULT_2, at);
        bad(maker, kind, ahead + "1844674407370955161" + (6 + low) + behind, FAULT_2, at);
        bad(maker, kind, ahead + "-1" + behind, FAULT_1, at);
        bad(maker, kind, ahead + "x" + behind, FAULT_1, at);
        if (low > 0) {
            bad(maker, kind, ahead + (low - 1) + behind, FAULT_2, at);
        }
    }

    static void unfit(String what, Maker maker, Call call) {
        refused(what, maker, call, IllegalArgumentException.class, 1);
    }

    static void unfit(String what, Call call) {
        unfit(what, Bench::rich, call);
    }

    static void missing(String what, Maker maker, Call call) {
        refused(what, maker, call, NoSuchElementException.class, 0);
    }

    static void missing(String what, Call call) {
        missing(what, Bench::rich, call);
    }

    /** A call that throws: just that, counted once, and all stays as it was. */
    private static void refused(String what, Maker maker, Call call, Class<?> why, int which) {
        HoseDynasty x = maker.make();
        HoseDynasty same = maker.make();
        int[] status = {x.status(0), x.status(1)};
        status[which]++;
        String thrown = "nothing";
        try {
            call.on(x);
        } catch (RuntimeException e) {
            thrown = e.getClass().getName();
        }
        dueText("what " + what + " throws", thrown, why.getName());
        due("status(0) behind " + what, x.status(0), status[0]);
        due("status(1) behind " + what, x.status(1), status[1]);
        dueText("what " + what + " left", all(x), all(same));
    }

    /** A call that changes nothing. */
    static void keeps(String what, Maker maker, Call call) {
        HoseDynasty x = maker.make();
        HoseDynasty same = maker.make();
        call.on(x);
        dueText("what " + what + " left", all(x), all(same));
    }

    /** All that can be known of an object but status(); it is used up by it. */
    static String all(HoseDynasty x) {
        return "refused " + x.told(10) + allButRefused(x);
    }

    static String allButRefused(HoseDynasty x) {
        StringBuilder text = new StringBuilder();
        text.append(" fault ").append(x.fault()).append(" counts ").append(x.count(0));
        text.append(' ').append(x.count(1)).append(' ').append(x.count(2)).append('\n');
        tellHouse(x, text);
        tellNight(x, text);
        tellUndone(x, text, 4);
        while (x.restore() >= 0) {
            text.append("image\n");
            tellNight(x, text);
            tellUndone(x, text, 2);
        }
        text.append("bytes ").append(x.house(x.count(1))).append(' ').append(x.fault()).append(' ').append(x.told(11));
        return text.toString();
    }

    /** All that a question could change, read before and behind it; nothing is used up. */
    static String now(HoseDynasty x) {
        StringBuilder text = new StringBuilder();
        tellNight(x, text);
        for (int k = 0; k < x.told(4); k++) {
            text.append(x.row(k)).append(' ').append(x.behind(k)).append(' ');
        }
        for (int f = 0; f < x.told(2); f++) {
            text.append(x.fire(f, 2)).append(' ');
        }
        for (int thread = 0; thread <= 9; thread++) {
            text.append(x.kin(thread)).append(' ');
        }
        text.append(x.told(6)).append(' ').append(x.told(9)).append(' ').append(x.told(10)).append(' ').append(x.fault());
        return text.toString();
    }

    private static void tellHouse(HoseDynasty x, StringBuilder text) {
        for (int what : new int[] {0, 1, 2, 9}) {
            text.append(x.told(what)).append(' ');
        }
        for (int p = 0; p < x.told(0); p++) {
            text.append(" piece ").append(x.piece(p, 0)).append(' ').append(x.piece(p, 3));
        }
        for (int c = 0; c < x.told(1); c++) {
            text.append(" collar ").append(x.collar(c, 0)).append(' ').append(x.collar(c, 1));
        }
        for (int f = 0; f < x.told(2); f++) {
            text.append(" fire ").append(x.fire(f, 0)).append(' ').append(x.fire(f, 1));
        }
        text.append("\nlaw ").append(x.would(99, 9, 30, 9, 9, 5, 1, 99, 5)).append(' ').append(x.would(50, 1, 1, 2, 3, 0, 0, 9, 2));
        text.append(" leaks ").append(x.leaks(0)).append(' ').append(x.leaks(1));
        text.append(" look ").append(x.look(0)).append(' ').append(x.look(1));
        text.append(" chain ").append(x.chain(0)).append(" joiner ").append(x.joiner(1)).append('\n');
    }

    /** Not all that can be undone: an object is good for 512 calls, and count(2) tells how many there are. */
    private static void tellUndone(HoseDynasty x, StringBuilder text, int most) {
        for (int k = 0; k < most && x.undo() >= 0; k++) {
            text.append("undone\n");
            tellNight(x, text);
        }
    }

    private static void tellNight(HoseDynasty x, StringBuilder text) {
        int pieces = x.told(0);
        int fires = x.told(2);
        text.append(x.count(0)).append(' ').append(x.count(2)).append(": ");
        for (int what : new int[] {3, 4, 5, 7, 8, 11}) {
            text.append(x.told(what)).append(' ');
        }
        text.append(" row ").append(x.row(0)).append(' ').append(x.row(1));
        for (int p = 0; p < pieces; p++) {
            text.append(' ').append(x.piece(p, 4)).append(x.piece(p, 5)).append(x.piece(p, 6));
        }
        for (int f = 0; f < fires; f++) {
            text.append(" f").append(x.fire(f, 3));
        }
        text.append('\n');
    }

    /** Runs each test of a class, by name; ends with exit code 1 if an answer was not as due. */
    static void run(Class<?> tests) {
        Method[] methods = tests.getDeclaredMethods();
        Arrays.sort(methods, Comparator.comparing(Method::getName));
        int many = 0;
        for (Method method : methods) {
            if (isTest(method)) {
                runOne(method);
                many++;
            }
        }
        System.out.println(many + " tests, " + (wrong == 0 ? "all as due" : wrong + " answers are not as due"));
        if (wrong != 0 || many == 0) {
            System.exit(1);
        }
    }

    static boolean isTest(Method method) {
        String name = method.getName();
        return Modifier.isStatic(method.getModifiers()) && method.getParameterCount() == 0
            && (name.startsWith("promise") || name.startsWith("terms"));
    }

    private static void runOne(Method method) {
        test = method.getName();
        try {
            method.setAccessible(true);
            method.invoke(null);
        } catch (InvocationTargetException e) {
            tell("threw " + e.getCause());
        } catch (IllegalAccessException e) {
            tell("can't be run: " + e);
        }
    }
}
