import java.lang.reflect.InvocationTargetException;
import java.lang.reflect.Method;
import java.util.ArrayList;
import java.util.HashMap;
import java.util.List;
import java.util.Map;
import java.util.Random;

/** Runs of drawn calls: HoseDynasty must answer each as the Model does. An argument: how many runs. */
public final class ModelTest {
    private static final int CALLS = 512;
    private static final String STRAY = " ;[](),0915+-*/%azxNWE\0\u00ff";
    private static final Map<String, Method> REAL = methods(HoseDynasty.class);
    private static final Map<String, Method> MODEL = methods(Model.class);

    private final Random random;
    private final HoseDynasty real = new HoseDynasty();
    private final Model model = new Model();
    private final List<String> told = new ArrayList<>();
    private int calls;
    private boolean wrong;

    private ModelTest(long seed) {
        random = new Random(seed);
    }

    private static Map<String, Method> methods(Class<?> type) {
        Map<String, Method> map = new HashMap<>();
        for (Method m : type.getDeclaredMethods()) {
            if (java.lang.reflect.Modifier.isPublic(m.getModifiers())) {
                map.put(m.getName(), m);
            }
        }
        return map;
    }

    private static String ask(Method method, Object on, Object[] arguments) throws IllegalAccessException {
        try {
            return String.valueOf(method.invoke(on, arguments));
        } catch (InvocationTargetException e) {
            return "throws " + e.getCause().getClass().getName();
        }
    }

    private String call(String name, int... arguments) throws IllegalAccessException {
        calls++;
        Object[] boxed = new Object[arguments.length];
        StringBuilder line = new StringBuilder(name).append('(');
        for (int i = 0; i < arguments.length; i++) {
            boxed[i] = arguments[i];
            line.append(i == 0 ? "" : ", ").append(arguments[i]);
        }
        String want = ask(MODEL.get(name), model, boxed);
        String got = ask(REAL.get(name), real, boxed);
        told.add(line.append(") = ").append(got).toString());
        if (!want.equals(got)) {
            wrong = true;
            System.out.println("    the model answers " + want);
        }
        return got;
    }

    private int upTo(int n) {
        return random.nextInt(n + 1);
    }

    private boolean once(int in) {
        return random.nextInt(in) == 0;
    }

    /** Mostly what the document allows, at times just beyond it, at times anything. */
    private int number(int low, int high) {
        if (once(60)) {
            return random.nextInt();
        }
        if (once(25)) {
            return once(2) ? low - 1 : high + 1;
        }
        return low + random.nextInt(high - low + 1);
    }

    private String some(String... of) {
        return of[random.nextInt(of.length)];
    }

    private String digits(int low, int high) {
        return (once(30) ? "00" : "") + number(low, high);
    }

    private String houseText() {
        StringBuilder b = new StringBuilder();
        int threads = some("2", "4", "4", "9").charAt(0) - '0';
        int clauses = once(20) ? 70 : upTo(16);
        for (int i = 0; i < clauses; i++) {
            switch (clauses > 60 ? 9 : random.nextInt(8)) {
                case 0, 1, 2, 3 -> b.append("piece ").append(digits(1, 30)).append(' ').append(upTo(threads)).append(' ')
                    .append(upTo(threads)).append(' ').append(digits(0, 9)).append(';');
                case 4, 5 -> b.append("collar ").append(digits(0, threads)).append(' ').append(upTo(9)).append(';');
                case 6 -> b.append("fire ").append(once(2) ? upTo(60) : upTo(200)).append(' ').append(digits(1, 99)).append(';');
                default -> b.append("hope ").append(digits(once(3) ? 0 : 60, 99)).append(';');
            }
        }
        return b.toString();
    }

    /** A HOUSE that fills every limit, so that the runs are not all of small houses. */
    private String fullHouse() {
        StringBuilder b = new StringBuilder();
        int threads = once(2) ? 1 + upTo(8) : upTo(2);
        int pieces = 3 + upTo(3);
        for (int i = 0; i < pieces; i++) {
            b.append("piece ").append(1 + upTo(29)).append(' ').append(upTo(threads)).append(' ')
                .append(upTo(threads)).append(' ').append(upTo(once(2) ? 3 : 9)).append(';');
        }
        int collars = upTo(4);
        for (int i = 0; i < collars; i++) {
            int a = upTo(9);
            b.append("collar ").append(a).append(' ').append((a + 1 + upTo(8)) % 10).append(';');
        }
        int fires = once(6) ? 0 : 1 + upTo(4);
        for (int i = 0; i < fires; i++) {
            b.append("fire ").append(upTo(once(2) ? 20 : 90)).append(' ').append(1 + upTo(once(2) ? 30 : 98)).append(';');
        }
        return once(2) ? b.toString() : b.append("hope ").append(upTo(99)).append(';').toString();
    }

    private String expression(int depth) {
        StringBuilder b = new StringBuilder(unit(depth));
        for (int more = upTo(3); more > 0; more--) {
            b.append(some("+", "-", "*", "/", "%", " - ", " + ")).append(unit(depth));
        }
        return b.toString();
    }

    private String unit(int depth) {
        if (depth > 0 && once(3)) {
            String inner = expression(depth - 1);
            switch (random.nextInt(3)) {
                case 0: return "(" + inner + ")";
                case 1: return "least[" + inner + "," + expression(depth - 1) + "]";
                default: return "most [" + inner + " , " + expression(depth - 1) + "]";
            }
        }
        if (once(3)) {
            return digits(0, once(3) ? 999 : 9);
        }
        return some("flow", "flow", "flow", "loss", "length", "bends", "burst", "place", "turned", "hope", "piece");
    }

    private String lawText() {
        if (once(12)) {
            return "(".repeat(upTo(7)) + "flow" + ")".repeat(upTo(7));
        }
        return once(2) ? "flow-" + expression(1) + "%9" : expression(upTo(7));
    }

    private String steps(int depth, int many) {
        StringBuilder b = new StringBuilder();
        for (int i = 0; i < many; i++) {
            switch (random.nextInt(14)) {
                case 0, 1 -> b.append("turn ").append(pieceNumber());
                case 2, 3, 4, 12, 13 -> b.append("lay ").append(pieceNumber());
                case 5 -> b.append("lift");
                case 6 -> b.append("bend ").append(pieceNumber()).append(' ').append(digits(0, 9));
                case 7 -> b.append("burst ").append(pieceNumber());
                case 8 -> b.append("patch ").append(pieceNumber());
                case 9 -> b.append("hope ").append(digits(once(3) ? 0 : 70, 99));
                case 10 -> b.append("hour");
                default -> b.append(depth == 0 ? "hour" : "again " + digits(0, 30) + "[" + steps(depth - 1, upTo(2)) + "]");
            }
            b.append(';');
        }
        return b.toString();
    }

    private String workText() {
        if (once(15)) {
            return "again 1[".repeat(upTo(8)) + "hour;" + "];".repeat(upTo(8));
        }
        if (once(3)) {
            StringBuilder lays = new StringBuilder(once(2) ? "hope 99;" : "");
            for (int i = 0; i < 8; i++) {
                lays.append("lay ").append(pieceNumber()).append(';');
            }
            return lays.append(steps(0, upTo(4))).toString();
        }
        return once(4) ? "again 30[hour;" + steps(1, 1) + "];" : steps(once(4) ? 7 : 1, upTo(10));
    }

    /** Mostly one that is there, so that most WORKS are read to their end. */
    private int pieceNumber() {
        int pieces = real.told(0);
        return once(50) || pieces == 0 ? upTo(6) : random.nextInt(pieces);
    }

    private int fireNumber() {
        int fires = real.told(2);
        return once(12) || fires == 0 ? number(0, 4) : random.nextInt(fires);
    }

    private String bookText() {
        StringBuilder b = new StringBuilder();
        int laid = real.told(4);
        for (int lines = once(10) ? 7 : upTo(3); lines > 0; lines--) {
            int place = once(6) ? number(0, 5) : upTo(5);
            int value = laid > 0 && place >= 0 && place < laid && !once(5) ? Math.max(0, real.behind(place) - upTo(4)) : number(0, 99);
            b.append(place).append(' ').append(value).append(';');
        }
        return b.toString();
    }

    private String spoiled(String text) {
        StringBuilder b = new StringBuilder(text);
        if (once(4)) {
            int at = upTo(b.length());
            if (at == b.length() || b.charAt(at) < '0' || b.charAt(at) > 'z' || b.charAt(at) == ';') {
                b.insert(at, once(2) ? " " : "   ");
            }
        }
        if (once(6) && b.length() > 0) {
            int at = random.nextInt(b.length());
            switch (random.nextInt(3)) {
                case 0 -> b.deleteCharAt(at);
                case 1 -> b.setCharAt(at, STRAY.charAt(random.nextInt(STRAY.length())));
                default -> b.insert(at, some(";", "[", "]", "(", ")", ",", "0", "9", "+", "a", "z", "hope", " ", "least["));
            }
        }
        if (once(15)) {
            b.setLength(upTo(b.length()));
        }
        return b.toString();
    }

    private void tell(String name, String plain) throws IllegalAccessException {
        if (real.count(1) > 0 && !once(6)) {
            // an empty LAW is a FAULT: it empties the TAPE, and all else stays
            call("law", 0);
        }
        String text = spoiled(plain);
        for (int i = 0; i < text.length() && i < 600; i += 20) {
            int[] five = new int[5];
            for (int k = 0; k < 20; k++) {
                int c = i + k < text.length() ? text.charAt(i + k) : once(2) ? 0 : ' ';
                five[k / 4] = five[k / 4] << 8 | c;
            }
            call("feed", five);
        }
        int n = once(40) ? random.nextInt(700) - 20 : text.length();
        told.add("    " + text);
        call(name, n);
        call("fault");
    }

    private void ask() throws IllegalAccessException {
        switch (random.nextInt(27)) {
            case 0 -> call("told", number(0, 11));
            case 1 -> call("piece", pieceNumber(), number(0, 7));
            case 2 -> call("collar", number(0, 3), number(0, 1));
            case 3 -> call("fire", fireNumber(), number(0, 3));
            case 4 -> call("row", number(0, once(3) ? 6 : 2));
            case 5 -> call("behind", number(0, once(3) ? 6 : 2));
            case 6 -> call("would", number(0, 99), number(0, 9), number(1, 30), number(0, 9), number(0, 9), number(0, 5),
                number(0, 1), number(0, 99), number(0, 5));
            case 7 -> call("fits", number(0, 9), number(0, 9));
            case 8 -> call("can", pieceNumber());
            case 9 -> call("ahead", number(0, 99));
            case 10 -> call("chain", number(0, 1));
            case 11 -> call("chained", number(0, 6));
            case 12 -> call("brief", fireNumber());
            case 13 -> call("briefly", fireNumber(), number(0, once(3) ? 6 : 2));
            case 14 -> call("joiner", number(0, 1));
            case 15 -> call("leaks", number(0, 1));
            case 16 -> call("look", number(0, 1));
            case 17 -> call("wed");
            case 18 -> call("sure", fireNumber(), number(0, 16), number(0, 1));
            case 19 -> call("street", number(0, 99), number(0, 9), number(0, 2));
            case 20 -> call("share", fireNumber(), number(0, (1 << real.told(2)) - 1), number(0, once(2) ? 999 : 200));
            case 21 -> call("next", number(0, 1));
            case 22 -> call("worst", number(0, 1));
            case 23 -> call("needed", fireNumber());
            case 24 -> call("kin", number(0, 9));
            case 25 -> call("year", random.nextInt(), number(1, 96), number(0, 16), number(0, 3));
            default -> call("span", random.nextInt(), number(1, 20), number(1, 96), number(0, 16), number(0, 2), fireNumber());
        }
    }

    private void change() throws IllegalAccessException {
        switch (random.nextInt(20)) {
            case 0 -> tell("house", once(3) ? houseText() : fullHouse());
            case 1, 2 -> tell("law", lawText());
            case 3, 4, 5 -> tell("book", bookText());
            case 6 -> call("undo");
            case 7 -> call("image");
            case 8 -> call("restore");
            case 9 -> call("status", number(0, 1));
            case 10 -> call("count", number(0, 2));
            case 11 -> call("feed", random.nextInt(), random.nextInt(), random.nextInt(), random.nextInt(), random.nextInt());
            default -> tell("work", workText());
        }
    }

    private boolean run() throws IllegalAccessException {
        if (!once(8)) {
            tell("house", fullHouse());
        }
        while (calls < CALLS && !wrong) {
            change();
            for (int asked = upTo(8); asked > 0 && !wrong; asked--) {
                ask();
            }
        }
        return !wrong;
    }

    public static void main(String[] arguments) throws IllegalAccessException {
        int runs = arguments.length > 0 ? Integer.parseInt(arguments[0]) : 300;
        long from = arguments.length > 1 ? Long.parseLong(arguments[1]) : 0;
        int bad = 0;
        for (long seed = from; seed < from + runs; seed++) {
            ModelTest test = new ModelTest(seed);
            if (!test.run()) {
                bad++;
                System.out.println("run " + seed + " ends wrong:");
                for (String line : test.told.subList(Math.max(0, test.told.size() - 40), test.told.size())) {
                    System.out.println("  " + line);
                }
                if (bad == 3) {
                    break;
                }
            }
        }
        System.out.println(bad == 0 ? runs + " runs answer as the model does" : "runs differ from the model");
        if (bad != 0) {
            System.exit(1);
        }
    }
}
