import java.math.BigInteger;
import java.util.ArrayDeque;
import java.util.ArrayList;
import java.util.Arrays;
import java.util.Deque;
import java.util.HashMap;
import java.util.List;
import java.util.Map;
import java.util.NoSuchElementException;
import java.util.TreeMap;

/** The document told a second time, by trying everything, so that HoseDynasty can be held against it. */
public final class Model {
    private static final class Fault extends Exception {
        private static final long serialVersionUID = 1L;
        final int which;
        final int at;
        Fault(int which, int at) {
            this.which = which;
            this.at = at;
        }
    }

    private record Token(char kind, String text, int at) { }
    private record Piece(int length, int head, int foot, int loss) { }
    private record Collar(int a, int b) { }
    private record Fire(int far, int need) { }
    private record Way(int piece, boolean turned) { }
    private record Step(String word, int one, int other, List<Step> body) { }

    private interface Expr { int of(Map<String, Integer> names); }

    private static final class State {
        List<Integer> row = new ArrayList<>();
        boolean[] turned = new boolean[6];
        int[] bends = new int[6];
        int[] bursts = new int[6];
        Integer[] out = new Integer[5];
        int hour;
        int hope = 60;
        State copy() {
            State s = new State();
            s.row = new ArrayList<>(row);
            s.turned = turned.clone();
            s.bends = bends.clone();
            s.bursts = bursts.clone();
            s.out = out.clone();
            s.hour = hour;
            s.hope = hope;
            return s;
        }
    }

    private record Image(State state, List<State> works) { }

    private List<Integer> tape = new ArrayList<>();
    private List<Piece> pieces = new ArrayList<>();
    private List<Collar> collars = new ArrayList<>();
    private List<Fire> fires = new ArrayList<>();
    private Expr law = usual();
    private Map<Integer, Integer> book = new TreeMap<>();
    private State now = new State();
    private List<State> works = new ArrayList<>();
    private Deque<Image> images = new ArrayDeque<>();
    private int faultAt = -1;
    private int refused;
    private final int[] thrown = new int[2];

    private static Expr usual() {
        return m -> m.get("flow") - m.get("loss") - m.get("bends") * 2 - m.get("burst") * 5;
    }

    // ---- texts

    private List<Token> tokens;
    private int next;

    private void scan(int n) {
        StringBuilder b = new StringBuilder();
        for (int i = 0; i < n; i++) {
            b.append((char) (int) tape.get(i));
        }
        String s = b.toString();
        tokens = new ArrayList<>();
        next = 0;
        for (int i = 0; i < n;) {
            char c = s.charAt(i);
            int j = i + 1;
            if (c == ' ') {
                i++;
                continue;
            }
            char kind = c;
            if (c >= '0' && c <= '9') {
                kind = 'N';
                while (j < n && s.charAt(j) >= '0' && s.charAt(j) <= '9') j++;
            } else if (c >= 'a' && c <= 'z') {
                kind = 'W';
                while (j < n && s.charAt(j) >= 'a' && s.charAt(j) <= 'z') j++;
            } else if (c == 'N' || c == 'W' || c == 'E') {
                kind = '?';
            }
            tokens.add(new Token(kind, s.substring(i, j), i));
            i = j;
        }
        tokens.add(new Token('E', "", n));
    }

    private Token look() {
        return tokens.get(next);
    }

    private Token take(char kind) throws Fault {
        Token t = look();
        if (t.kind != kind) throw new Fault(1, t.at);
        next++;
        return t;
    }

    private int number(int low, int high) throws Fault {
        Token t = take('N');
        BigInteger v = new BigInteger(t.text);
        if (v.compareTo(BigInteger.valueOf(low)) < 0 || v.compareTo(BigInteger.valueOf(high)) > 0) {
            throw new Fault(2, t.at);
        }
        return v.intValue();
    }

    private int lastAt() {
        return tokens.get(next - 1).at;
    }

    private String word(String... known) throws Fault {
        Token t = take('W');
        if (!Arrays.asList(known).contains(t.text)) throw new Fault(1, t.at);
        return t.text;
    }

    private interface Reading<T> { T read() throws Fault; }

    private <T> T read(int n, Reading<T> reading, int[] answer) {
        scan(n);
        tape.clear();
        faultAt = -1;
        try {
            return reading.read();
        } catch (Fault f) {
            faultAt = f.at;
            answer[0] = f.which - 10;
            return null;
        }
    }

    private void open(int n, int most) {
        need(n >= 0 && n <= most && n <= tape.size());
    }

    private void need(boolean b) {
        if (!b) {
            thrown[1]++;
            throw new IllegalArgumentException();
        }
    }

    private void there(int k, List<?> list) {
        if (k < 0 || k >= list.size()) {
            thrown[0]++;
            throw new NoSuchElementException();
        }
    }

    public int feed(int a, int b, int c, int d, int e) {
        if (tape.size() > 580) return -1;
        for (int v : new int[] {a, b, c, d, e}) {
            for (int s = 3; s >= 0; s--) tape.add((v >>> (8 * s)) & 0xff);
        }
        return tape.size();
    }

    private static final class Telling {
        List<Piece> pieces = new ArrayList<>();
        List<Collar> collars = new ArrayList<>();
        List<Fire> fires = new ArrayList<>();
        int hope = 60;
    }

    private Telling readHouse() throws Fault {
        Telling t = new Telling();
        int clauses = 0;
        while (look().kind != 'E') {
            String w = word("piece", "collar", "fire", "hope");
            clauses++;
            int limit = w.equals("piece") ? 6 - t.pieces.size() : w.equals("collar") ? 4 - t.collars.size()
                : w.equals("fire") ? 5 - t.fires.size() : 1;
            if (clauses > 60 || limit == 0) throw new Fault(3, lastAt());
            if (w.equals("piece")) {
                t.pieces.add(new Piece(number(1, 30), number(0, 9), number(0, 9), number(0, 9)));
            } else if (w.equals("collar")) {
                int a = number(0, 9);
                int b = number(0, 9);
                if (a == b) throw new Fault(2, lastAt());
                t.collars.add(new Collar(a, b));
            } else if (w.equals("fire")) {
                t.fires.add(new Fire(number(0, 200), number(1, 99)));
            } else {
                t.hope = number(0, 99);
            }
            take(';');
        }
        return t;
    }

    public int house(int n) {
        open(n, 600);
        int[] answer = {0};
        Telling t = read(n, this::readHouse, answer);
        if (t == null) return answer[0];
        pieces = t.pieces;
        collars = t.collars;
        fires = t.fires;
        now = new State();
        now.hope = t.hope;
        law = usual();
        book.clear();
        images.clear();
        works.clear();
        refused = 0;
        return pieces.size();
    }

    private Expr sum(int depth) throws Fault {
        Expr left = product(depth);
        while (look().kind == '+' || look().kind == '-') {
            char sign = look().kind;
            next++;
            Expr a = left;
            Expr b = product(depth);
            left = sign == '+' ? m -> a.of(m) + b.of(m) : m -> a.of(m) - b.of(m);
        }
        return left;
    }

    private Expr product(int depth) throws Fault {
        Expr left = unit(depth);
        while ("*/%".indexOf(look().kind) >= 0) {
            char sign = look().kind;
            next++;
            Expr a = left;
            Expr b = unit(depth);
            left = m -> {
                int x = a.of(m);
                int y = b.of(m);
                return sign == '*' ? x * y : y == 0 ? 0 : sign == '/' ? x / y : x % y;
            };
        }
        return left;
    }

    private Expr unit(int depth) throws Fault {
        if (look().kind == 'N') {
            int v = number(0, 999);
            return m -> v;
        }
        if (look().kind == '(') {
            if (depth == 6) throw new Fault(3, look().at);
            next++;
            Expr e = sum(depth + 1);
            take(')');
            return e;
        }
        String w = word("flow", "loss", "length", "bends", "burst", "place", "turned", "hope", "piece", "least", "most");
        if (!w.equals("least") && !w.equals("most")) return m -> m.get(w);
        if (depth == 6) throw new Fault(3, lastAt());
        take('[');
        Expr a = sum(depth + 1);
        take(',');
        Expr b = sum(depth + 1);
        take(']');
        return w.equals("least") ? m -> Math.min(a.of(m), b.of(m)) : m -> Math.max(a.of(m), b.of(m));
    }

    public int law(int n) {
        open(n, 150);
        int[] answer = {1};
        Expr e = read(n, () -> {
            Expr all = sum(0);
            take('E');
            return all;
        }, answer);
        if (e != null) law = e;
        return answer[0];
    }

    private List<Step> steps(int depth) throws Fault {
        List<Step> list = new ArrayList<>();
        while (look().kind != (depth == 0 ? 'E' : ']')) {
            String w = word("turn", "lay", "lift", "bend", "burst", "patch", "hope", "hour", "again");
            int one = 0;
            int other = 0;
            List<Step> body = null;
            switch (w) {
                case "turn", "lay", "burst", "patch" -> one = number(0, pieces.size() - 1);
                case "bend" -> {
                    one = number(0, pieces.size() - 1);
                    other = number(0, 9);
                }
                case "hope" -> one = number(0, 99);
                case "again" -> {
                    if (depth == 6) throw new Fault(3, lastAt());
                    one = number(0, 30);
                    take('[');
                    body = steps(depth + 1);
                    take(']');
                }
                default -> { }
            }
            list.add(new Step(w, one, other, body));
            take(';');
        }
        return list;
    }

    private int begun;
    private int done;

    private void run(List<Step> list) {
        for (Step s : list) {
            if (begun == 200) return;
            begun++;
            if (s.word.equals("again")) {
                for (int i = 0; i < s.one; i++) run(s.body);
            } else if (step(now, s.word, s.one, s.other, 500)) {
                done++;
            } else {
                refused++;
            }
        }
    }

    public int work(int n) {
        open(n, 150);
        if (works.size() == 16) {
            tape.clear();
            faultAt = -1;
            return -20;
        }
        int[] answer = {0};
        List<Step> list = read(n, () -> steps(0), answer);
        if (list == null) return answer[0];
        works.add(now.copy());
        begun = 0;
        done = 0;
        refused = 0;
        run(list);
        return done;
    }

    public int book(int n) {
        open(n, 60);
        int[] answer = {0};
        Map<Integer, Integer> lines = read(n, () -> {
            Map<Integer, Integer> map = new TreeMap<>();
            while (look().kind != 'E') {
                int k = number(0, 5);
                if (map.containsKey(k)) throw new Fault(2, lastAt());
                map.put(k, number(0, 99));
                take(';');
            }
            return map;
        }, answer);
        if (lines == null) return answer[0];
        book = lines;
        return book.size();
    }

    public int fault() {
        return faultAt;
    }

    public int undo() {
        if (works.isEmpty()) return -1;
        now = works.remove(works.size() - 1);
        refused = 0;
        return works.size();
    }

    // ---- steps and water

    private boolean fit(int a, int b) {
        if (a == b) return true;
        for (Collar c : collars) {
            if (c.a == a && c.b == b || c.a == b && c.b == a) return true;
        }
        return false;
    }

    private int head(int p, boolean turned) {
        return turned ? pieces.get(p).foot : pieces.get(p).head;
    }

    private int foot(int p, boolean turned) {
        return turned ? pieces.get(p).head : pieces.get(p).foot;
    }

    private boolean layable(State s, int p, boolean turned) {
        if (s.row.contains(p)) return false;
        if (s.row.isEmpty()) return true;
        int last = s.row.get(s.row.size() - 1);
        return fit(head(p, turned), foot(last, s.turned[last]));
    }

    private boolean step(State s, String word, int p, int n, int lastHour) {
        switch (word) {
            case "turn":
                if (s.row.contains(p)) return false;
                s.turned[p] = !s.turned[p];
                return true;
            case "lay":
                if (!layable(s, p, s.turned[p])) return false;
                s.row.add(p);
                return true;
            case "lift":
                if (s.row.isEmpty()) return false;
                s.row.remove(s.row.size() - 1);
                return true;
            case "bend":
                if (s.bends[p] == n) return false;
                s.bends[p] = n;
                return true;
            case "burst":
                if (s.bursts[p] == 9) return false;
                s.bursts[p]++;
                return true;
            case "patch":
                if (s.bursts[p] == 0) return false;
                s.bursts[p]--;
                return true;
            case "hope":
                if (s.hope == p) return false;
                s.hope = p;
                return true;
            default:
                if (s.hour >= lastHour) return false;
                hour(s);
                return true;
        }
    }

    private int hour(State s) {
        int put = 0;
        for (int f = 0; f < fires.size(); f++) {
            if (reaches(s, f)) {
                if (s.out[f] == null) put++;
                s.out[f] = s.hour;
            } else if (s.out[f] != null && s.hour - s.out[f] >= 9) {
                s.out[f] = null;
            }
        }
        s.hour++;
        return put;
    }

    private int left(int flow, int p, boolean turned, int place, State s) {
        Map<String, Integer> m = new HashMap<>();
        m.put("flow", flow);
        m.put("loss", pieces.get(p).loss);
        m.put("length", pieces.get(p).length);
        m.put("bends", s.bends[p]);
        m.put("burst", s.bursts[p]);
        m.put("place", place);
        m.put("turned", turned ? 1 : 0);
        m.put("hope", s.hope);
        m.put("piece", p);
        return Math.max(0, Math.min(99, law.of(m)));
    }

    private List<Integer> lefts(State s, int leakAt, int leak) {
        List<Integer> list = new ArrayList<>();
        int flow = s.hope;
        for (int k = 0; k < s.row.size(); k++) {
            int p = s.row.get(k);
            flow = left(flow, p, s.turned[p], k, s);
            if (k == leakAt) flow = Math.max(0, flow - leak);
            list.add(flow);
        }
        return list;
    }

    private int arrives(State s) {
        List<Integer> list = lefts(s, -1, 0);
        return list.isEmpty() ? s.hope : list.get(list.size() - 1);
    }

    private int length(State s) {
        int sum = 0;
        for (int p : s.row) sum += pieces.get(p).length;
        return sum;
    }

    private boolean reaches(State s, int f) {
        return length(s) >= fires.get(f).far && arrives(s) >= fires.get(f).need;
    }

    // ---- asked

    public int told(int what) {
        need(what >= 0 && what <= 11);
        int bits = 0;
        switch (what) {
            case 0: return pieces.size();
            case 1: return collars.size();
            case 2: return fires.size();
            case 3: return now.hour;
            case 4: return now.row.size();
            case 5:
                for (int p : now.row) bits += 1 << p;
                return bits;
            case 6: return length(now);
            case 7: return arrives(now);
            case 8: return outs(now);
            case 9: return book.size();
            case 10: return refused;
            default: return now.hope;
        }
    }

    private int outs(State s) {
        int bits = 0;
        for (int f = 0; f < 5; f++) if (s.out[f] != null) bits += 1 << f;
        return bits;
    }

    public int piece(int p, int what) {
        there(p, pieces);
        need(what >= 0 && what <= 7);
        switch (what) {
            case 0: return pieces.get(p).length;
            case 1: return head(p, now.turned[p]);
            case 2: return foot(p, now.turned[p]);
            case 3: return pieces.get(p).loss;
            case 4: return now.bends[p];
            case 5: return now.bursts[p];
            case 6: return now.turned[p] ? 1 : 0;
            default: return now.row.indexOf(p);
        }
    }

    public int collar(int c, int what) {
        there(c, collars);
        need(what == 0 || what == 1);
        return what == 0 ? collars.get(c).a : collars.get(c).b;
    }

    public int fire(int f, int what) {
        there(f, fires);
        need(what >= 0 && what <= 3);
        switch (what) {
            case 0: return fires.get(f).far;
            case 1: return fires.get(f).need;
            case 2: return reaches(now, f) ? 1 : 0;
            default: return now.out[f] == null ? -1 : now.out[f];
        }
    }

    public int row(int k) {
        need(k >= 0);
        return k < now.row.size() ? now.row.get(k) : -1;
    }

    public int behind(int k) {
        need(k >= 0);
        return k < now.row.size() ? lefts(now, -1, 0).get(k) : -1;
    }

    public int would(int flow, int loss, int length, int bends, int burst, int place, int turned, int hope, int piece) {
        int[] v = {flow, loss, length, bends, burst, place, turned, hope, piece};
        int[] high = {99, 9, 30, 9, 9, 5, 1, 99, 5};
        String[] names = {"flow", "loss", "length", "bends", "burst", "place", "turned", "hope", "piece"};
        boolean ok = length >= 1;
        Map<String, Integer> m = new HashMap<>();
        for (int i = 0; i < 9; i++) {
            ok &= v[i] >= 0 && v[i] <= high[i];
            m.put(names[i], v[i]);
        }
        need(ok);
        return Math.max(0, Math.min(99, law.of(m)));
    }

    public boolean fits(int a, int b) {
        need(a >= 0 && a <= 9 && b >= 0 && b <= 9);
        return fit(a, b);
    }

    public boolean can(int p) {
        there(p, pieces);
        return layable(now, p, now.turned[p]);
    }

    public int ahead(int n) {
        need(n >= 0 && n <= 99);
        State s = now.copy();
        for (int i = 0; i < n; i++) hour(s);
        return outs(s);
    }

    private void allRows(List<Way> row, List<List<Way>> into) {
        into.add(new ArrayList<>(row));
        for (int p = 0; p < pieces.size(); p++) {
            for (boolean turned : new boolean[] {false, true}) {
                int piece = p;
                if (row.stream().anyMatch(w -> w.piece == piece)) continue;
                if (!row.isEmpty()) {
                    Way last = row.get(row.size() - 1);
                    if (!fit(foot(last.piece, last.turned), head(p, turned))) continue;
                }
                row.add(new Way(p, turned));
                allRows(row, into);
                row.remove(row.size() - 1);
            }
        }
    }

    private List<List<Way>> known;
    private List<Piece> knownPieces;

    private List<List<Way>> everyRow() {
        if (known == null || knownPieces != pieces) {
            known = new ArrayList<>();
            allRows(new ArrayList<>(), known);
            knownPieces = pieces;
        }
        return known;
    }

    private int sum(List<Way> row) {
        int sum = 0;
        for (Way w : row) sum += pieces.get(w.piece).length;
        return sum;
    }

    private List<Way> longest() {
        List<Way> best = new ArrayList<>();
        for (List<Way> row : everyRow()) if (sum(row) > sum(best)) best = row;
        return best;
    }

    public int chain(int what) {
        need(what == 0 || what == 1);
        return what == 0 ? sum(longest()) : longest().size();
    }

    private static int told(List<Way> row, int k) {
        if (row == null || k >= row.size()) return -1;
        return 2 * row.get(k).piece + (row.get(k).turned ? 1 : 0);
    }

    public int chained(int k) {
        need(k >= 0);
        return told(longest(), k);
    }

    private List<Way> shortest(int f) {
        List<Way> best = null;
        for (List<Way> row : everyRow()) {
            if (best != null && row.size() >= best.size()) continue;
            int flow = now.hope;
            for (int k = 0; k < row.size(); k++) flow = left(flow, row.get(k).piece, row.get(k).turned, k, now);
            if (sum(row) >= fires.get(f).far && flow >= fires.get(f).need) best = row;
        }
        return best;
    }

    public int brief(int f) {
        there(f, fires);
        List<Way> row = shortest(f);
        return row == null ? -1 : row.size();
    }

    public int briefly(int f, int k) {
        there(f, fires);
        need(k >= 0);
        return told(shortest(f), k);
    }

    /** How long the longest row behind such a thread is; below 0: any thread. */
    private int deepest(int used, int thread) {
        int best = 0;
        for (int p = 0; p < pieces.size(); p++) {
            if ((used >> p & 1) == 1) continue;
            Piece piece = pieces.get(p);
            if (thread < 0 || fit(thread, piece.head)) {
                best = Math.max(best, piece.length + deepest(used | 1 << p, piece.foot));
            }
            if (thread < 0 || fit(thread, piece.foot)) {
                best = Math.max(best, piece.length + deepest(used | 1 << p, piece.head));
            }
        }
        return best;
    }

    private List<Piece> joinerOf;
    private final int[] joinerKnown = new int[2];

    public int joiner(int what) {
        need(what == 0 || what == 1);
        if (joinerOf == pieces) return joinerKnown[what];
        int best = -1;
        int pair = -1;
        for (int a = 0; a < 10; a++) {
            for (int b = a + 1; b < 10; b++) {
                if (fit(a, b)) continue;
                collars.add(new Collar(a, b));
                int length = deepest(0, -1);
                collars.remove(collars.size() - 1);
                if (length > best) {
                    best = length;
                    pair = 10 * a + b;
                }
            }
        }
        joinerOf = pieces;
        joinerKnown[0] = best;
        joinerKnown[1] = pair;
        return joinerKnown[what];
    }

    private List<int[]> pairs(Map<Integer, Integer> lines) {
        List<int[]> list = new ArrayList<>();
        for (int place = 0; place < now.row.size(); place++) {
            for (int more = 1; more <= 30; more++) {
                List<Integer> left = lefts(now, place, more);
                boolean right = true;
                for (Map.Entry<Integer, Integer> line : lines.entrySet()) {
                    right &= line.getKey() < left.size() && left.get(line.getKey()).equals(line.getValue());
                }
                if (right) list.add(new int[] {place, more});
            }
        }
        return list;
    }

    public int leaks(int what) {
        need(what == 0 || what == 1);
        List<int[]> list = pairs(book);
        if (what == 0) return list.size();
        return list.isEmpty() ? -1 : 100 * list.get(0)[0] + list.get(0)[1];
    }

    public int look(int what) {
        need(what == 0 || what == 1);
        int best = -1;
        int bestWorst = -1;
        for (int place = 0; place < now.row.size(); place++) {
            if (book.containsKey(place)) continue;
            Map<Integer, Integer> groups = new HashMap<>();
            int worst = 0;
            for (int[] pair : pairs(book)) {
                worst = Math.max(worst, groups.merge(lefts(now, pair[0], pair[1]).get(place), 1, Integer::sum));
            }
            if (best == -1 || worst < bestWorst) {
                best = place;
                bestWorst = worst;
            }
        }
        return what == 0 ? best : bestWorst;
    }

    public int wed() {
        return pairs(new ArrayList<>(), 0);
    }

    private int pairs(List<Integer> used, int from) {
        int best = 0;
        for (int a = from; a < pieces.size(); a++) {
            for (int b = a + 1; b < pieces.size(); b++) {
                if (used.contains(a) || used.contains(b)) continue;
                if (!fit(foot(a, false), head(b, false)) && !fit(foot(b, false), head(a, false))) continue;
                List<Integer> then = new ArrayList<>(used);
                then.add(a);
                then.add(b);
                best = Math.max(best, 1 + pairs(then, a + 1));
            }
        }
        return best;
    }

    private BigInteger likely(State s, int k, int f, int q) {
        if (k == s.row.size()) return reaches(s, f) ? BigInteger.ONE : BigInteger.ZERO;
        State burst = s.copy();
        burst.bursts[s.row.get(k)]++;
        return likely(burst, k + 1, f, q).multiply(BigInteger.valueOf(q))
            .add(likely(s, k + 1, f, q).multiply(BigInteger.valueOf(16 - q)));
    }

    public long sure(int f, int q, int part) {
        there(f, fires);
        need(q >= 0 && q <= 16 && (part == 0 || part == 1));
        BigInteger above = likely(now, 0, f, q);
        BigInteger below = BigInteger.valueOf(16).pow(now.row.size());
        BigInteger gcd = above.gcd(below);
        return (part == 0 ? above : below).divide(gcd).longValue();
    }

    private int arrivesBy(int give, int take) {
        State s = now.copy();
        if (give < 8) s.bends[s.row.get(give)]++;
        if (take < 8) s.bends[s.row.get(take)]--;
        return arrives(s);
    }

    public int street(int v, int w, int what) {
        need(v >= 0 && v <= 99 && w >= 0 && w <= 9 && what >= 0 && what <= 2);
        List<Integer> gives = new ArrayList<>();
        List<Integer> takes = new ArrayList<>();
        for (int k = 0; k < now.row.size(); k++) {
            gives.add(k);
            if (now.bends[now.row.get(k)] > 0) takes.add(k);
        }
        gives.add(8);
        takes.add(8);
        int rests = 0;
        int first = -1;
        int both = 0;
        for (int g : gives) {
            for (int t : takes) {
                int streetHas = v - arrivesBy(g, t) - (g < 8 ? w : 0);
                int houseHas = arrivesBy(g, t) - (t < 8 ? w : 0);
                boolean rest = true;
                for (int g2 : gives) rest &= v - arrivesBy(g2, t) - (g2 < 8 ? w : 0) <= streetHas;
                for (int t2 : takes) rest &= arrivesBy(g, t2) - (t2 < 8 ? w : 0) <= houseHas;
                if (rest && rests++ == 0) {
                    first = 10 * g + t;
                    both = streetHas + houseHas;
                }
            }
        }
        return what == 0 ? rests : what == 1 ? first : both;
    }

    public int share(int f, int told, int n) {
        there(f, fires);
        need(told >= 0 && told < 1 << fires.size() && n >= 0 && n <= 999);
        if ((told & 1 << f) == 0) return 0;
        int answer = 0;
        for (int bound = 0; bound <= 99; bound++) {
            int sum = 0;
            for (int i = 0; i < fires.size(); i++) {
                if ((told & 1 << i) != 0) sum += Math.min(fires.get(i).need, bound);
            }
            if (sum <= n) answer = Math.min(fires.get(f).need, bound);
        }
        return answer;
    }

    public int next(int what) {
        need(what == 0 || what == 1);
        int bits = 0;
        for (int p = 0; p < pieces.size(); p++) {
            if (layable(now, p, now.turned[p] ^ what == 1)) bits += 1 << p;
        }
        return bits;
    }

    public int worst(int what) {
        need(what == 0 || what == 1);
        int best = -1;
        int lost = 0;
        int flow = now.hope;
        List<Integer> left = lefts(now, -1, 0);
        for (int k = 0; k < left.size(); k++) {
            if (best == -1 || flow - left.get(k) > lost) {
                best = k;
                lost = flow - left.get(k);
            }
            flow = left.get(k);
        }
        return what == 0 ? best : lost;
    }

    public int needed(int f) {
        there(f, fires);
        for (int h = 0; h <= 99; h++) {
            State s = now.copy();
            s.hope = h;
            if (reaches(s, f)) return h;
        }
        return -1;
    }

    public int kin(int t) {
        need(t >= 0 && t <= 9);
        int bits = 0;
        for (int o = 0; o < 10; o++) if (fit(t, o)) bits += 1 << o;
        return bits;
    }

    private int seedNow;

    private int drawn(int by) {
        seedNow = (int) (seedNow * 1103515245L + 12345L);
        return (int) ((seedNow & 0xffffffffL) / 65536 % 32768 % by);
    }

    private int put;

    private State live(int seed, int hours, int q) {
        State s = now.copy();
        seedNow = seed;
        put = 0;
        for (int h = 0; h < hours; h++) {
            if (!pieces.isEmpty()) {
                int p = drawn(pieces.size());
                step(s, List.of("lay", "turn", "burst", "patch").get(drawn(4)), p, 0, 0);
                if (drawn(16) < q) step(s, "lift", 0, 0, 0);
            }
            put += hour(s);
        }
        return s;
    }

    public int year(int seed, int hours, int q, int what) {
        need(hours >= 1 && hours <= 96 && q >= 0 && q <= 16 && what >= 0 && what <= 3);
        State s = live(seed, hours, q);
        int bits = 0;
        for (int p : s.row) bits += 1 << p;
        int bursts = 0;
        for (int b : s.bursts) bursts += b;
        return what == 0 ? put : what == 1 ? bits : what == 2 ? arrives(s) : bursts;
    }

    public int span(int seed, int many, int hours, int q, int what, int f) {
        need(many >= 1 && many <= 20 && hours >= 1 && hours <= 96 && q >= 0 && q <= 16 && what >= 0 && what <= 2);
        need(f >= 0 && f < fires.size());
        List<Integer> sizes = new ArrayList<>();
        int out = 0;
        for (int i = 0; i < many; i++) {
            State s = live(seed + i, hours, q);
            sizes.add(s.row.size());
            if (s.out[f] != null) out++;
        }
        sizes.sort(null);
        return what == 0 ? sizes.get(0) : what == 1 ? sizes.get(many - 1) : out;
    }

    public int image() {
        if (images.size() == 3) return -1;
        List<State> copies = new ArrayList<>();
        for (State s : works) copies.add(s.copy());
        images.push(new Image(now.copy(), copies));
        return images.size();
    }

    public int restore() {
        if (images.isEmpty()) return -1;
        Image i = images.pop();
        now = i.state;
        works = i.works;
        refused = 0;
        return images.size();
    }

    public int status(int what) {
        return what == 0 || what == 1 ? thrown[what] : -1;
    }

    public int count(int what) {
        return what == 0 ? images.size() : what == 1 ? tape.size() : what == 2 ? works.size() : -1;
    }
}
