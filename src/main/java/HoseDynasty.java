import java.util.Arrays;
import java.util.NoSuchElementException;

/** A house of hoses: its pieces, its nights and what is asked of them, as DOC.md promises. */
public final class HoseDynasty {
    public static final int NONE = -1;

    private static final int PIECES = 6;
    private static final int COLLARS = 4;
    private static final int FIRES = 5;
    private static final int THREADS = 10;
    private static final int MOST_WATER = 99;
    private static final int MOST_COUNT = 9;
    private static final int SHORT_TEXT = 150;
    private static final int BOOK_TEXT = 60;
    private static final int FAULT_SHIFT = 10;
    private static final int TOO_MANY_WORKS = -20;
    private static final int OPEN_AT_ONCE = 6;

    private final Text tape = new Text();
    private final House house = new House();
    private final House spareHouse = new House();
    private final Law law = new Law();
    private final Law spareLaw = new Law();
    private final Book book = new Book();
    private final Book spareBook = new Book();
    private final Work work = new Work();
    private final Night night = new Night();
    private final Past past = new Past();
    private final Water water = new Water(house, law);
    private final Rows rows = new Rows(house, water);
    private final Street street = new Street(water);
    private final Years years = new Years(house, water);
    private int missing;
    private int unfit;

    public HoseDynasty() {
        night.begin(house.hope);
    }

    public int feed(int a, int b, int c, int d, int e) {
        if (!tape.hasRoom()) {
            return NONE;
        }
        tape.append(a);
        tape.append(b);
        tape.append(c);
        tape.append(d);
        tape.append(e);
        return tape.fed;
    }

    public int house(int n) throws IllegalArgumentException {
        open(n, Text.ROOM);
        if (!spareHouse.readFrom(tape)) {
            return tape.fault - FAULT_SHIFT;
        }
        house.become(spareHouse);
        law.beUntold();
        book.clear();
        past.forget();
        night.begin(house.hope);
        work.refused = 0;
        rows.forgetHouse();
        return house.pieces;
    }

    public int law(int n) throws IllegalArgumentException {
        open(n, SHORT_TEXT);
        if (!spareLaw.readFrom(tape)) {
            return tape.fault - FAULT_SHIFT;
        }
        law.become(spareLaw);
        rows.forgetShort();
        return 1;
    }

    public int work(int n) throws IllegalArgumentException {
        open(n, SHORT_TEXT);
        if (past.isFull()) {
            return TOO_MANY_WORKS;
        }
        if (!work.readFrom(tape, house.pieces)) {
            return tape.fault - FAULT_SHIFT;
        }
        past.push(night);
        rows.forgetShort();
        return work.doneOn(night, house, water);
    }

    public int book(int n) throws IllegalArgumentException {
        open(n, BOOK_TEXT);
        if (!spareBook.readFrom(tape)) {
            return tape.fault - FAULT_SHIFT;
        }
        book.become(spareBook);
        return book.lines;
    }

    public int fault() {
        return tape.faultAt;
    }

    public int undo() {
        if (past.works <= 0) {
            return NONE;
        }
        past.pop(night);
        work.refused = 0;
        rows.forgetShort();
        return past.works;
    }

    public int told(int what) throws IllegalArgumentException {
        expect(within(what, 0, 11));
        switch (what) {
            case 0: return house.pieces;
            case 1: return house.collars;
            case 2: return house.fires;
            case 3: return night.hour;
            case 4: return night.laid;
            case 5: return night.rowBits();
            case 6: return night.longNow(house);
            case 7: return water.arriving(night, night.hope);
            case 8: return night.outBits();
            case 9: return book.lines;
            case 10: return work.refused;
            default: return night.hope;
        }
    }

    public int piece(int piece, int what) throws NoSuchElementException, IllegalArgumentException {
        expectPiece(piece);
        expect(within(what, 0, 7));
        switch (what) {
            case 0: return pick(house.length, piece);
            case 1: return house.headOf(night.wayOf(piece));
            case 2: return house.footOf(night.wayOf(piece));
            case 3: return pick(house.loss, piece);
            case 4: return pick(night.bends, piece);
            case 5: return pick(night.bursts, piece);
            case 6: return bit(night.turned, piece);
            default: return night.placeOf(piece);
        }
    }

    public int collar(int collar, int what) throws NoSuchElementException, IllegalArgumentException {
        expectThere(within(collar, 0, house.collars - 1));
        expect(within(what, 0, 1));
        return what == 0 ? pick(house.joined, collar) : pick(house.joinedTo, collar);
    }

    public int fire(int fire, int what) throws NoSuchElementException, IllegalArgumentException {
        expectFire(fire);
        expect(within(what, 0, 3));
        switch (what) {
            case 0: return pick(house.far, fire);
            case 1: return pick(house.need, fire);
            case 2: return bit(water.reachedBits(night), fire);
            default: return pick(night.lastOut, fire);
        }
    }

    public int row(int k) throws IllegalArgumentException {
        expect(k >= 0);
        return k < night.laid ? pick(night.row, k) : NONE;
    }

    public int behind(int k) throws IllegalArgumentException {
        expect(k >= 0);
        if (k >= night.laid) {
            return NONE;
        }
        water.arriving(night, night.hope);
        return pick(water.left, k);
    }

    public int would(int flow, int loss, int length, int bends, int burst, int place, int turned, int hope, int piece)
            throws IllegalArgumentException {
        expect(within(flow, 0, MOST_WATER) && within(loss, 0, MOST_COUNT) && within(length, 1, 30));
        expect(within(bends, 0, MOST_COUNT) && within(burst, 0, MOST_COUNT) && within(place, 0, PIECES - 1));
        expect(within(turned, 0, 1) && within(hope, 0, MOST_WATER) && within(piece, 0, PIECES - 1));
        law.tellPiece(loss, length, turned, piece);
        law.tellNow(flow, bends, burst, place, hope);
        return law.left();
    }

    public boolean fits(int one, int other) throws IllegalArgumentException {
        expectThread(one);
        expectThread(other);
        return house.joins(one, other);
    }

    public boolean can(int piece) throws NoSuchElementException {
        expectPiece(piece);
        return night.canLay(house, night.wayOf(piece));
    }

    public int ahead(int n) throws IllegalArgumentException {
        expect(within(n, 0, 99));
        return years.outAfter(night, n);
    }

    public int chain(int what) throws IllegalArgumentException {
        expect(within(what, 0, 1));
        rows.findChain();
        return what == 0 ? rows.chainLong : rows.chainMany;
    }

    public int chained(int k) throws IllegalArgumentException {
        expect(k >= 0);
        rows.findChain();
        return k < rows.chainMany ? pick(rows.chainWays, k) : NONE;
    }

    public int brief(int fire) throws NoSuchElementException {
        expectFire(fire);
        rows.findShort(night, fire);
        return rows.shortMany;
    }

    public int briefly(int fire, int k) throws NoSuchElementException, IllegalArgumentException {
        expectFire(fire);
        expect(k >= 0);
        rows.findShort(night, fire);
        return k < rows.shortMany ? pick(rows.shortWays, k) : NONE;
    }

    public int joiner(int what) throws IllegalArgumentException {
        expect(within(what, 0, 1));
        rows.findCollar();
        return what == 0 ? rows.collarLong : rows.collarThreads;
    }

    public int leaks(int what) throws IllegalArgumentException {
        expect(within(what, 0, 1));
        book.findLeaks(night, water);
        return what == 0 ? book.leakPairs : book.firstLeak;
    }

    public int look(int what) throws IllegalArgumentException {
        expect(within(what, 0, 1));
        book.findLook(night, water);
        return what == 0 ? book.lookPlace : book.lookWorst;
    }

    public int wed() {
        return rows.mostPairs();
    }

    public long sure(int fire, int q, int part) throws NoSuchElementException, IllegalArgumentException {
        expectFire(fire);
        expect(within(q, 0, 16) && within(part, 0, 1));
        long above = water.chanceOf(night, fire, q);
        long below = 1L << (4 * night.laid);
        // what stands below is a power of two: halving is all that can shorten
        for (int halved = 0; halved < 4 * PIECES && below > 1 && (above & 1) == 0; halved++) {
            above >>= 1;
            below >>= 1;
        }
        return part == 0 ? above : below;
    }

    public int street(int v, int w, int what) throws IllegalArgumentException {
        expect(within(v, 0, 99) && within(w, 0, 9) && within(what, 0, 2));
        street.findRests(night, w);
        switch (what) {
            case 0: return street.rests;
            case 1: return street.firstRest;
            default: return street.rests == 0 ? 0 : v - street.spent;
        }
    }

    public int share(int fire, int fires, int n) throws NoSuchElementException, IllegalArgumentException {
        expectFire(fire);
        expect(within(fires, 0, (1 << house.fires) - 1) && within(n, 0, 999));
        if (bit(fires, fire) == 0) {
            return 0;
        }
        return Math.min(pick(house.need, fire), house.level(fires, n));
    }

    public int next(int what) throws IllegalArgumentException {
        expect(within(what, 0, 1));
        int bits = 0;
        for (int p = 0; p < house.pieces; p++) {
            if (night.canLay(house, night.wayOf(p) ^ what)) {
                bits |= 1 << p;
            }
        }
        return bits;
    }

    public int worst(int what) throws IllegalArgumentException {
        expect(within(what, 0, 1));
        int place = water.worstPlace(night);
        if (what == 0) {
            return place;
        }
        return place < 0 ? 0 : water.lostAt(night, place);
    }

    public int needed(int fire) throws NoSuchElementException {
        expectFire(fire);
        if (night.longNow(house) < pick(house.far, fire)) {
            return NONE;
        }
        for (int hope = 0; hope <= MOST_WATER; hope++) {
            if (water.arriving(night, hope) >= pick(house.need, fire)) {
                return hope;
            }
        }
        return NONE;
    }

    public int kin(int thread) throws IllegalArgumentException {
        expectThread(thread);
        return pick(house.kinBits, thread);
    }

    public int year(int seed, int hours, int q, int what) throws IllegalArgumentException {
        expect(within(hours, 1, 96) && within(q, 0, 16) && within(what, 0, 3));
        years.live(night, seed, hours, q);
        switch (what) {
            case 0: return years.putOut;
            case 1: return years.then.rowBits();
            case 2: return water.arriving(years.then, years.then.hope);
            default: return years.then.allBursts();
        }
    }

    public int span(int seed, int many, int hours, int q, int what, int fire) throws IllegalArgumentException {
        expect(within(many, 1, 20) && within(hours, 1, 96) && within(q, 0, 16));
        expect(within(what, 0, 2) && within(fire, 0, house.fires - 1));
        int fewest = PIECES;
        int most = 0;
        int out = 0;
        for (int s = 0; s < many; s++) {
            years.live(night, seed + s, hours, q);
            fewest = Math.min(fewest, years.then.laid);
            most = Math.max(most, years.then.laid);
            out += bit(years.then.outBits(), fire);
        }
        return what == 0 ? fewest : what == 1 ? most : out;
    }

    public int image() {
        if (!past.canKeep()) {
            return NONE;
        }
        past.keep(night);
        return past.images;
    }

    public int restore() {
        if (past.images <= 0) {
            return NONE;
        }
        past.bringBack(night);
        work.refused = 0;
        rows.forgetShort();
        return past.images;
    }

    public int status(int what) {
        return what == 0 ? missing : what == 1 ? unfit : NONE;
    }

    public int count(int what) {
        switch (what) {
            case 0: return past.images;
            case 1: return tape.fed;
            case 2: return past.works;
            default: return NONE;
        }
    }

    private void open(int n, int most) {
        expect(n >= 0 && n <= most && n <= tape.fed);
        tape.begin(n);
    }

    private void expect(boolean fit) {
        if (!fit) {
            unfit++;
            throw new IllegalArgumentException("a number that is none such");
        }
    }

    private void expectThere(boolean there) {
        if (!there) {
            missing++;
            throw new NoSuchElementException("no such piece, collar or fire");
        }
    }

    private void expectPiece(int piece) {
        expectThere(within(piece, 0, house.pieces - 1));
    }

    private void expectFire(int fire) {
        expectThere(within(fire, 0, house.fires - 1));
    }

    private void expectThread(int thread) {
        expect(within(thread, 0, THREADS - 1));
    }

    private static boolean within(int n, int low, int high) {
        return n >= low && n <= high;
    }

    private static int bit(int bits, int k) {
        return bits >> k & 1;
    }

    private static int pick(int[] from, int k) {
        return k >= 0 && k < from.length ? from[k] : 0;
    }

    private static void put(int[] to, int k, int value) {
        if (k >= 0 && k < to.length) {
            to[k] = value;
        }
    }

    /** The TAPE, and the text on it that is being read, with its first FAULT. */
    private static final class Text {
        static final int ROOM = 600;
        private static final int FED_AT_ONCE = 20;
        private static final int CANT_STAND = 1;
        private static final int NONE_SUCH = 2;
        private static final int TOO_MANY = 3;
        // a number this great is out of every range, and ten times it still fits 32 bits
        private static final int GREAT = 100000;

        private final byte[] bytes = new byte[ROOM];
        int fed;
        int fault;
        int faultAt = NONE;
        int number;
        private int at;
        private int end;
        private int tokenAt;

        boolean hasRoom() {
            return fed + FED_AT_ONCE <= ROOM;
        }

        void append(int four) {
            for (int shift = 24; shift >= 0; shift -= 8) {
                if (fed >= 0 && fed < ROOM) {
                    bytes[fed] = (byte) (four >> shift);
                    fed++;
                }
            }
        }

        /** From now on the first n bytes are read; the TAPE itself is empty then, whatever comes of it. */
        void begin(int n) {
            at = 0;
            end = n;
            fed = 0;
            fault = 0;
            faultAt = NONE;
        }

        /** The next byte that is no blank; NONE at the end. */
        int peek() {
            while (at < end && byteAt(at) == ' ') {
                at++;
            }
            tokenAt = at;
            return at < end ? byteAt(at) : NONE;
        }

        boolean ended() {
            return peek() == NONE || blame(CANT_STAND);
        }

        boolean sign(char wanted) {
            if (peek() != wanted) {
                return blame(CANT_STAND);
            }
            at++;
            return true;
        }

        boolean numeral(int low, int high) {
            if (!isDigit(peek())) {
                return blame(CANT_STAND);
            }
            int value = 0;
            for (; at < end && isDigit(byteAt(at)); at++) {
                value = Math.min(GREAT, value * 10 + byteAt(at) - '0');
            }
            number = value;
            return within(value, low, high) || blame(NONE_SUCH);
        }

        /** Which of the words, each with a blank behind it, stands here; NONE, and a FAULT, if none does. */
        int named(String words) {
            peek();
            while (at < end && within(byteAt(at), 'a', 'z')) {
                at++;
            }
            int which = placeAmong(words);
            if (which < 0) {
                blame(CANT_STAND);
            }
            return which;
        }

        private int placeAmong(String words) {
            int which = 0;
            int reached = tokenAt;
            boolean alike = true;
            for (int i = 0; i < words.length(); i++) {
                if (words.charAt(i) != ' ') {
                    alike = alike && reached < at && byteAt(reached) == words.charAt(i);
                    reached++;
                } else if (alike && reached == at) {
                    return which;
                } else {
                    which++;
                    reached = tokenAt;
                    alike = true;
                }
            }
            return NONE;
        }

        boolean noneSuch() {
            return blame(NONE_SUCH);
        }

        boolean tooMany() {
            return blame(TOO_MANY);
        }

        /** Always false, so that a reader can end with it. */
        private boolean blame(int what) {
            fault = what;
            faultAt = tokenAt;
            return false;
        }

        private int byteAt(int k) {
            return k >= 0 && k < ROOM ? bytes[k] & 255 : NONE;
        }

        static boolean isDigit(int sign) {
            return sign >= '0' && sign <= '9';
        }
    }

    /** What a HOUSE tells. A WAY is a PIECE as told (2 times its number) or turned (and 1). */
    private static final class House {
        private static final String WORDS = "piece collar fire hope ";
        private static final int PIECE = 0;
        private static final int COLLAR = 1;
        private static final int FIRE = 2;
        private static final int CLAUSES = 60;
        private static final int USUAL_HOPE = 60;

        int pieces;
        int collars;
        int fires;
        int hope;
        final int[] length = new int[PIECES];
        final int[] loss = new int[PIECES];
        private final int[] head = new int[PIECES];
        private final int[] foot = new int[PIECES];
        final int[] joined = new int[COLLARS];
        final int[] joinedTo = new int[COLLARS];
        final int[] far = new int[FIRES];
        final int[] need = new int[FIRES];
        final int[] kinBits = new int[THREADS];

        House() {
            clear();
        }

        private void clear() {
            pieces = 0;
            collars = 0;
            fires = 0;
            hope = USUAL_HOPE;
            for (int t = 0; t < THREADS; t++) {
                kinBits[t] = 1 << t;
            }
        }

        void become(House other) {
            pieces = other.pieces;
            collars = other.collars;
            fires = other.fires;
            hope = other.hope;
            System.arraycopy(other.length, 0, length, 0, PIECES);
            System.arraycopy(other.loss, 0, loss, 0, PIECES);
            System.arraycopy(other.head, 0, head, 0, PIECES);
            System.arraycopy(other.foot, 0, foot, 0, PIECES);
            System.arraycopy(other.joined, 0, joined, 0, COLLARS);
            System.arraycopy(other.joinedTo, 0, joinedTo, 0, COLLARS);
            System.arraycopy(other.far, 0, far, 0, FIRES);
            System.arraycopy(other.need, 0, need, 0, FIRES);
            System.arraycopy(other.kinBits, 0, kinBits, 0, THREADS);
        }

        boolean readFrom(Text text) {
            clear();
            for (int clauses = 0; clauses <= CLAUSES; clauses++) {
                if (text.peek() == NONE) {
                    return true;
                }
                int word = text.named(WORDS);
                if (word < 0) {
                    return false;
                }
                if (clauses == CLAUSES || isFull(word)) {
                    return text.tooMany();
                }
                if (!readClause(text, word) || !text.sign(';')) {
                    return false;
                }
            }
            return false;
        }

        private boolean isFull(int word) {
            switch (word) {
                case PIECE: return pieces >= PIECES;
                case COLLAR: return collars >= COLLARS;
                case FIRE: return fires >= FIRES;
                default: return false;
            }
        }

        private boolean readClause(Text text, int word) {
            switch (word) {
                case PIECE: return readPiece(text);
                case COLLAR: return readCollar(text);
                case FIRE: return readFire(text);
                default: return readHope(text);
            }
        }

        private boolean readPiece(Text text) {
            boolean fit = readTo(length, pieces, text, 1, 30)
                && readTo(head, pieces, text, 0, THREADS - 1)
                && readTo(foot, pieces, text, 0, THREADS - 1)
                && readTo(loss, pieces, text, 0, MOST_COUNT);
            pieces++;
            return fit;
        }

        private boolean readCollar(Text text) {
            if (!readTo(joined, collars, text, 0, THREADS - 1) || !readTo(joinedTo, collars, text, 0, THREADS - 1)) {
                return false;
            }
            int one = pick(joined, collars);
            int other = pick(joinedTo, collars);
            if (one == other) {
                return text.noneSuch();
            }
            collars++;
            join(one, other);
            return true;
        }

        private boolean readFire(Text text) {
            boolean fit = readTo(far, fires, text, 0, 200) && readTo(need, fires, text, 1, MOST_WATER);
            fires++;
            return fit;
        }

        private boolean readHope(Text text) {
            boolean fit = text.numeral(0, MOST_WATER);
            hope = text.number;
            return fit;
        }

        private static boolean readTo(int[] rank, int k, Text text, int low, int high) {
            boolean fit = text.numeral(low, high);
            put(rank, k, text.number);
            return fit;
        }

        void join(int one, int other) {
            put(kinBits, one, pick(kinBits, one) | 1 << other);
            put(kinBits, other, pick(kinBits, other) | 1 << one);
        }

        /** Takes back a join of two THREADS that did not FIT ahead of it. */
        void part(int one, int other) {
            put(kinBits, one, pick(kinBits, one) & ~(1 << other));
            put(kinBits, other, pick(kinBits, other) & ~(1 << one));
        }

        boolean joins(int one, int other) {
            return bit(pick(kinBits, one), other) == 1;
        }

        int headOf(int way) {
            return (way & 1) == 0 ? pick(head, way >> 1) : pick(foot, way >> 1);
        }

        int footOf(int way) {
            return (way & 1) == 0 ? pick(foot, way >> 1) : pick(head, way >> 1);
        }

        /** Whether a WAY may come behind another one. */
        boolean follows(int lying, int coming) {
            return joins(footOf(lying), headOf(coming));
        }

        boolean reaches(int fire, int length, int water) {
            return length >= pick(far, fire) && water >= pick(need, fire);
        }

        /** The greatest bound by which the told FIRES are given no more than n. */
        int level(int told, int n) {
            for (int bound = MOST_WATER; bound > 0; bound--) {
                int given = 0;
                for (int f = 0; f < fires && f < FIRES; f++) {
                    given += bit(told, f) * Math.min(bound, need[f]);
                }
                if (given <= n) {
                    return bound;
                }
            }
            return 0;
        }
    }

    /** A LAW, kept as its parts in the order in which they are reckoned: operands first. */
    private static final class Law {
        private static final String WORDS = "flow loss length bends burst place turned hope piece least most ";
        private static final int NAMES = 9;
        private static final int MOST_NUMBER = 999;
        private static final int NAME = 1000;
        private static final int OPERATION = 2000;
        private static final int ADD = 2000;
        private static final int SUBTRACT = 2001;
        private static final int TIMES = 2002;
        private static final int DIVIDE = 2003;
        private static final int REST = 2004;
        private static final int LEAST = 2005;
        private static final int[] UNTOLD = {1000, 1001, 2001, 1003, 2, 2002, 2001, 1004, 5, 2002, 2001};
        // no more than three operands wait in each of seven levels
        private static final int WAITING = 32;

        private final int[] code = new int[SHORT_TEXT];
        private int size;
        private final int[] stack = new int[WAITING];
        private final int[] given = new int[NAMES];

        Law() {
            beUntold();
        }

        void beUntold() {
            size = UNTOLD.length;
            for (int i = 0; i < UNTOLD.length && i < SHORT_TEXT; i++) {
                code[i] = UNTOLD[i];
            }
        }

        void become(Law other) {
            size = other.size;
            System.arraycopy(other.code, 0, code, 0, SHORT_TEXT);
        }

        boolean readFrom(Text text) {
            size = 0;
            return readSum(text, 0) && text.ended();
        }

        private boolean readSum(Text text, int opened) {
            if (!readProduct(text, opened)) {
                return false;
            }
            for (int i = 0; i < SHORT_TEXT; i++) {
                int sign = text.peek();
                if (sign != '+' && sign != '-') {
                    return true;
                }
                text.sign((char) sign);
                if (!readProduct(text, opened)) {
                    return false;
                }
                add(sign == '+' ? ADD : SUBTRACT);
            }
            return false;
        }

        private boolean readProduct(Text text, int opened) {
            if (!readUnit(text, opened)) {
                return false;
            }
            for (int i = 0; i < SHORT_TEXT; i++) {
                int sign = text.peek();
                if (sign != '*' && sign != '/' && sign != '%') {
                    return true;
                }
                text.sign((char) sign);
                if (!readUnit(text, opened)) {
                    return false;
                }
                add(sign == '*' ? TIMES : sign == '/' ? DIVIDE : REST);
            }
            return false;
        }

        private boolean readUnit(Text text, int opened) {
            int sign = text.peek();
            if (Text.isDigit(sign)) {
                return text.numeral(0, MOST_NUMBER) && add(text.number);
            }
            if (sign == '(') {
                if (opened >= OPEN_AT_ONCE) {
                    return text.tooMany();
                }
                return text.sign('(') && readSum(text, opened + 1) && text.sign(')');
            }
            int word = text.named(WORDS);
            if (word < NAMES) {
                return word >= 0 && add(NAME + word);
            }
            if (opened >= OPEN_AT_ONCE) {
                return text.tooMany();
            }
            return text.sign('[') && readSum(text, opened + 1)
                && text.sign(',') && readSum(text, opened + 1)
                && text.sign(']') && add(LEAST + word - NAMES);
        }

        /** Always true, so that a reader can end with it. */
        private boolean add(int part) {
            put(code, size, part);
            size = Math.min(SHORT_TEXT, size + 1);
            return true;
        }

        void tellPiece(int loss, int length, int turned, int piece) {
            given[1] = loss;
            given[2] = length;
            given[6] = turned;
            given[8] = piece;
        }

        void tellNow(int flow, int bends, int burst, int place, int hope) {
            given[0] = flow;
            given[3] = bends;
            given[4] = burst;
            given[5] = place;
            given[7] = hope;
        }

        int left() {
            int top = 0;
            for (int i = 0; i < size && i < SHORT_TEXT; i++) {
                int part = code[i];
                if (part < OPERATION) {
                    put(stack, top, part < NAME ? part : pick(given, part - NAME));
                    top++;
                } else if (top >= 2 && top <= WAITING) {
                    top--;
                    stack[top - 1] = reckon(part, stack[top - 1], stack[top]);
                }
            }
            int value = stack[0];
            return value < 0 ? 0 : value > MOST_WATER ? MOST_WATER : value;
        }

        private static int reckon(int operation, int one, int other) {
            switch (operation) {
                case ADD: return one + other;
                case SUBTRACT: return one - other;
                case TIMES: return one * other;
                case DIVIDE: return other == 0 ? 0 : one / other;
                case REST: return other == 0 ? 0 : one % other;
                case LEAST: return one <= other ? one : other;
                default: return one >= other ? one : other;
            }
        }
    }

    /** A WORK as a row of STEPS; an again and its closing bracket know each other's place. */
    private static final class Work {
        private static final String WORDS = "turn lay lift bend burst patch hope hour again ";
        private static final int TURN = 0;
        private static final int LAY = 1;
        private static final int LIFT = 2;
        private static final int BEND = 3;
        private static final int BURST = 4;
        private static final int PATCH = 5;
        private static final int HOPE = 6;
        private static final int HOUR = 7;
        private static final int AGAIN = 8;
        private static final int CLOSE = 9;
        private static final int AGAINS = 30;
        private static final int BEGUN = 200;
        // even a closing bracket takes two bytes with its semicolon
        private static final int ROOM = SHORT_TEXT / 2;
        // each again that is begun closes 30 times at most
        private static final int PASSES = BEGUN * (AGAINS + 1);
        private static final int LAST_HOUR = 500;

        private final int[] kind = new int[ROOM];
        private final int[] first = new int[ROOM];
        private final int[] second = new int[ROOM];
        private int size;
        private final int[] openedAt = new int[OPEN_AT_ONCE];
        private final int[] timesLeft = new int[OPEN_AT_ONCE];
        private int depth;
        int refused;

        boolean readFrom(Text text, int pieces) {
            size = 0;
            depth = 0;
            for (int read = 0; read <= SHORT_TEXT; read++) {
                int sign = text.peek();
                if (sign == NONE && depth == 0) {
                    return true;
                }
                boolean fit = sign == ']' && depth > 0 ? readClose(text) : readStep(text, pieces);
                if (!fit) {
                    return false;
                }
            }
            return false;
        }

        private boolean readClose(Text text) {
            depth--;
            int again = pick(openedAt, depth);
            put(second, again, size);
            add(CLOSE, 0, again);
            return text.sign(']') && text.sign(';');
        }

        private boolean readStep(Text text, int pieces) {
            int word = text.named(WORDS);
            if (word < 0) {
                return false;
            }
            if (word == AGAIN) {
                return readAgain(text);
            }
            int one = 0;
            int other = 0;
            if (word != LIFT && word != HOUR) {
                if (!text.numeral(0, word == HOPE ? MOST_WATER : pieces - 1)) {
                    return false;
                }
                one = text.number;
            }
            if (word == BEND) {
                if (!text.numeral(0, MOST_COUNT)) {
                    return false;
                }
                other = text.number;
            }
            add(word, one, other);
            return text.sign(';');
        }

        private boolean readAgain(Text text) {
            if (depth >= OPEN_AT_ONCE) {
                return text.tooMany();
            }
            if (!text.numeral(0, AGAINS)) {
                return false;
            }
            put(openedAt, depth, size);
            depth++;
            add(AGAIN, text.number, 0);
            return text.sign('[');
        }

        private void add(int word, int one, int other) {
            put(kind, size, word);
            put(first, size, one);
            put(second, size, other);
            size = Math.min(ROOM, size + 1);
        }

        /** How many STEPS were done; how many were REFUSED is kept. */
        int doneOn(Night night, House house, Water water) {
            int done = 0;
            int begun = 0;
            int at = 0;
            refused = 0;
            depth = 0;
            for (int pass = 0; pass < PASSES && at < size && begun < BEGUN; pass++) {
                int word = pick(kind, at);
                if (word == CLOSE) {
                    at = behindClose(at);
                    continue;
                }
                begun++;
                if (word == AGAIN) {
                    at = behindAgain(at);
                    continue;
                }
                if (isDone(at, night, house, water)) {
                    done++;
                } else {
                    refused++;
                }
                at++;
            }
            return done;
        }

        private int behindAgain(int at) {
            if (pick(first, at) == 0) {
                return pick(second, at) + 1;
            }
            put(timesLeft, depth, pick(first, at));
            depth++;
            return at + 1;
        }

        private int behindClose(int at) {
            int times = pick(timesLeft, depth - 1) - 1;
            if (times > 0) {
                put(timesLeft, depth - 1, times);
                return pick(second, at) + 1;
            }
            depth--;
            return at + 1;
        }

        private boolean isDone(int at, Night night, House house, Water water) {
            int one = pick(first, at);
            switch (pick(kind, at)) {
                case TURN: return night.turnRound(one);
                case LAY: return night.layDown(house, one);
                case LIFT: return night.liftLast();
                case BEND: return night.bendTo(one, pick(second, at));
                case BURST: return night.burstOnce(one);
                case PATCH: return night.patchOnce(one);
                case HOPE: return night.hopeFor(one);
                default:
                    if (night.hour >= LAST_HOUR) {
                        return false;
                    }
                    night.passHour(water.reachedBits(night));
                    return true;
            }
        }
    }

    /** All that WORK changes. */
    private static final class Night {
        static final int SIZE = 3 * PIECES + FIRES + 4;
        private static final int BURNS_AGAIN = 9;

        final int[] row = new int[PIECES];
        final int[] bends = new int[PIECES];
        final int[] bursts = new int[PIECES];
        final int[] lastOut = new int[FIRES];
        int turned;
        int laid;
        int hour;
        int hope;

        void begin(int told) {
            Arrays.fill(bends, 0);
            Arrays.fill(bursts, 0);
            Arrays.fill(lastOut, NONE);
            turned = 0;
            laid = 0;
            hour = 0;
            hope = told;
        }

        void become(Night other) {
            System.arraycopy(other.row, 0, row, 0, PIECES);
            System.arraycopy(other.bends, 0, bends, 0, PIECES);
            System.arraycopy(other.bursts, 0, bursts, 0, PIECES);
            System.arraycopy(other.lastOut, 0, lastOut, 0, FIRES);
            turned = other.turned;
            laid = other.laid;
            hour = other.hour;
            hope = other.hope;
        }

        void writeTo(int[] store, int from) {
            if (from < 0 || from > store.length - SIZE) {
                return;
            }
            System.arraycopy(row, 0, store, from, PIECES);
            System.arraycopy(bends, 0, store, from + PIECES, PIECES);
            System.arraycopy(bursts, 0, store, from + 2 * PIECES, PIECES);
            System.arraycopy(lastOut, 0, store, from + 3 * PIECES, FIRES);
            int rest = from + 3 * PIECES + FIRES;
            store[rest] = turned;
            store[rest + 1] = laid;
            store[rest + 2] = hour;
            store[rest + 3] = hope;
        }

        void readFrom(int[] store, int from) {
            if (from < 0 || from > store.length - SIZE) {
                return;
            }
            System.arraycopy(store, from, row, 0, PIECES);
            System.arraycopy(store, from + PIECES, bends, 0, PIECES);
            System.arraycopy(store, from + 2 * PIECES, bursts, 0, PIECES);
            System.arraycopy(store, from + 3 * PIECES, lastOut, 0, FIRES);
            int rest = from + 3 * PIECES + FIRES;
            turned = store[rest];
            laid = store[rest + 1];
            hour = store[rest + 2];
            hope = store[rest + 3];
        }

        int wayOf(int piece) {
            return 2 * piece + bit(turned, piece);
        }

        int placeOf(int piece) {
            for (int k = 0; k < laid && k < PIECES; k++) {
                if (row[k] == piece) {
                    return k;
                }
            }
            return NONE;
        }

        int rowBits() {
            int bits = 0;
            for (int k = 0; k < laid && k < PIECES; k++) {
                bits |= 1 << row[k];
            }
            return bits;
        }

        int outBits() {
            int bits = 0;
            for (int f = 0; f < FIRES; f++) {
                if (lastOut[f] != NONE) {
                    bits |= 1 << f;
                }
            }
            return bits;
        }

        int longNow(House house) {
            int sum = 0;
            for (int k = 0; k < laid && k < PIECES; k++) {
                sum += pick(house.length, row[k]);
            }
            return sum;
        }

        int allBursts() {
            int sum = 0;
            for (int p = 0; p < PIECES; p++) {
                sum += bursts[p];
            }
            return sum;
        }

        boolean canLay(House house, int way) {
            if (placeOf(way >> 1) != NONE || laid >= PIECES) {
                return false;
            }
            return laid == 0 || house.follows(wayOf(pick(row, laid - 1)), way);
        }

        boolean turnRound(int piece) {
            if (placeOf(piece) != NONE) {
                return false;
            }
            turned ^= 1 << piece;
            return true;
        }

        boolean layDown(House house, int piece) {
            if (!canLay(house, wayOf(piece))) {
                return false;
            }
            put(row, laid, piece);
            laid++;
            return true;
        }

        boolean liftLast() {
            if (laid == 0) {
                return false;
            }
            laid--;
            return true;
        }

        boolean bendTo(int piece, int many) {
            if (pick(bends, piece) == many) {
                return false;
            }
            put(bends, piece, many);
            return true;
        }

        boolean burstOnce(int piece) {
            if (pick(bursts, piece) >= MOST_COUNT) {
                return false;
            }
            put(bursts, piece, pick(bursts, piece) + 1);
            return true;
        }

        boolean patchOnce(int piece) {
            if (pick(bursts, piece) <= 0) {
                return false;
            }
            put(bursts, piece, pick(bursts, piece) - 1);
            return true;
        }

        boolean hopeFor(int wanted) {
            if (hope == wanted) {
                return false;
            }
            hope = wanted;
            return true;
        }

        /** An HOUR goes by: how many FIRES that burnt are put out in it. */
        int passHour(int reached) {
            int putOut = 0;
            for (int f = 0; f < FIRES; f++) {
                if (bit(reached, f) == 1) {
                    putOut += lastOut[f] == NONE ? 1 : 0;
                    lastOut[f] = hour;
                } else if (lastOut[f] != NONE && hour - lastOut[f] >= BURNS_AGAIN) {
                    lastOut[f] = NONE;
                }
            }
            hour++;
            return putOut;
        }
    }

    /** The nights ahead of each WORK that can be undone, and the IMAGES, each with such nights of its own. */
    private static final class Past {
        private static final int WORKS = 16;
        private static final int IMAGES = 3;
        private static final int UNDOS = WORKS * Night.SIZE;
        private static final int IMAGE = UNDOS + Night.SIZE;

        private final int[] nights = new int[UNDOS];
        private final int[] kept = new int[IMAGES * IMAGE];
        private final int[] keptWorks = new int[IMAGES];
        int works;
        int images;

        void forget() {
            works = 0;
            images = 0;
        }

        boolean isFull() {
            return works >= WORKS;
        }

        void push(Night night) {
            night.writeTo(nights, works * Night.SIZE);
            works++;
        }

        void pop(Night night) {
            works--;
            night.readFrom(nights, works * Night.SIZE);
        }

        boolean canKeep() {
            return images < IMAGES;
        }

        void keep(Night night) {
            if (images < 0 || images >= IMAGES) {
                return;
            }
            night.writeTo(kept, images * IMAGE);
            System.arraycopy(nights, 0, kept, images * IMAGE + Night.SIZE, UNDOS);
            keptWorks[images] = works;
            images++;
        }

        void bringBack(Night night) {
            if (images < 1 || images > IMAGES) {
                return;
            }
            images--;
            night.readFrom(kept, images * IMAGE);
            System.arraycopy(kept, images * IMAGE + Night.SIZE, nights, 0, UNDOS);
            works = keptWorks[images];
        }
    }

    /** The water by the LAW, as it is or as it would be by a leak, other bends or bursts at some places. */
    private static final class Water {
        private final House house;
        private final Law law;
        final int[] left = new int[PIECES];
        final int[] moreBends = new int[PIECES];
        private final int[] moreBursts = new int[PIECES];
        int leakAt = NONE;
        int leak;

        Water(House house, Law law) {
            this.house = house;
            this.law = law;
        }

        /** What ARRIVES by such a hope; what is LEFT behind each place is kept. */
        int arriving(Night night, int hope) {
            int flow = hope;
            for (int k = 0; k < night.laid && k < PIECES; k++) {
                flow = behindPiece(night, night.wayOf(night.row[k]), k, flow, hope);
                if (k == leakAt) {
                    flow = Math.max(0, flow - leak);
                }
                left[k] = flow;
            }
            return flow;
        }

        int behindPiece(Night night, int way, int place, int flow, int hope) {
            int piece = way >> 1;
            int bends = pick(night.bends, piece) + pick(moreBends, place);
            int bursts = pick(night.bursts, piece) + pick(moreBursts, place);
            law.tellPiece(pick(house.loss, piece), pick(house.length, piece), way & 1, piece);
            law.tellNow(flow, bends, bursts, place, hope);
            return law.left();
        }

        int reachedBits(Night night) {
            if (house.fires == 0) {
                return 0;
            }
            int water = arriving(night, night.hope);
            int length = night.longNow(house);
            int bits = 0;
            for (int f = 0; f < house.fires; f++) {
                if (house.reaches(f, length, water)) {
                    bits |= 1 << f;
                }
            }
            return bits;
        }

        int worstPlace(Night night) {
            arriving(night, night.hope);
            int worst = NONE;
            for (int k = 0; k < night.laid && k < PIECES; k++) {
                if (worst == NONE || lostAt(night, k) > lostAt(night, worst)) {
                    worst = k;
                }
            }
            return worst;
        }

        /** What is lost at a place by the water that went through latest. */
        int lostAt(Night night, int place) {
            int came = place == 0 ? night.hope : pick(left, place - 1);
            return came - pick(left, place);
        }

        /** How likely the FIRE is still REACHED, in parts of 16 to the power of the ROW's PIECES. */
        long chanceOf(Night night, int fire, int q) {
            int length = night.longNow(house);
            long sum = 0;
            for (int burst = 0; burst < 1 << night.laid; burst++) {
                long parts = 1;
                for (int k = 0; k < night.laid && k < PIECES; k++) {
                    moreBursts[k] = bit(burst, k);
                    parts *= moreBursts[k] == 1 ? q : 16 - q;
                }
                if (parts > 0 && house.reaches(fire, length, arriving(night, night.hope))) {
                    sum += parts;
                }
            }
            Arrays.fill(moreBursts, 0);
            return sum;
        }
    }

    /** The BOOK: what was LEFT behind which place (NONE: no line tells), and what follows from it. */
    private static final class Book {
        private static final int MOST_LEAK = 30;
        private static final int VALUES = MOST_WATER + 1;

        int lines;
        private final int[] seen = new int[PIECES];
        private final int[] tally = new int[PIECES * VALUES];
        int leakPairs;
        int firstLeak;
        int lookPlace;
        int lookWorst;

        Book() {
            clear();
        }

        void clear() {
            lines = 0;
            Arrays.fill(seen, NONE);
        }

        void become(Book other) {
            lines = other.lines;
            System.arraycopy(other.seen, 0, seen, 0, PIECES);
        }

        /** No line too many is looked for: with six good ones every seventh K is a K twice, the lesser FAULT. */
        boolean readFrom(Text text) {
            clear();
            for (int read = 0; read <= PIECES; read++) {
                if (text.peek() == NONE) {
                    return true;
                }
                if (!readLine(text)) {
                    return false;
                }
            }
            return false;
        }

        private boolean readLine(Text text) {
            if (!text.numeral(0, PIECES - 1)) {
                return false;
            }
            int place = text.number;
            if (pick(seen, place) != NONE) {
                return text.noneSuch();
            }
            if (!text.numeral(0, MOST_WATER)) {
                return false;
            }
            put(seen, place, text.number);
            lines++;
            return text.sign(';');
        }

        void findLeaks(Night night, Water water) {
            leakPairs = 0;
            firstLeak = NONE;
            Arrays.fill(tally, 0);
            for (int place = 0; place < night.laid; place++) {
                water.leakAt = place;
                for (int more = 1; more <= MOST_LEAK; more++) {
                    water.leak = more;
                    water.arriving(night, night.hope);
                    if (isRight(night, water)) {
                        firstLeak = leakPairs == 0 ? 100 * place + more : firstLeak;
                        leakPairs++;
                        tallyUp(night, water);
                    }
                }
            }
            water.leakAt = NONE;
        }

        private boolean isRight(Night night, Water water) {
            for (int k = 0; k < PIECES; k++) {
                if (seen[k] != NONE && (k >= night.laid || water.left[k] != seen[k])) {
                    return false;
                }
            }
            return true;
        }

        private void tallyUp(Night night, Water water) {
            for (int k = 0; k < night.laid && k < PIECES; k++) {
                int cell = k * VALUES + water.left[k];
                put(tally, cell, pick(tally, cell) + 1);
            }
        }

        void findLook(Night night, Water water) {
            findLeaks(night, water);
            lookPlace = NONE;
            lookWorst = NONE;
            for (int k = 0; k < night.laid && k < PIECES; k++) {
                if (seen[k] == NONE && (lookPlace == NONE || worstAt(k) < lookWorst)) {
                    lookPlace = k;
                    lookWorst = worstAt(k);
                }
            }
        }

        private int worstAt(int place) {
            int worst = 0;
            for (int v = 0; v < VALUES; v++) {
                worst = Math.max(worst, pick(tally, place * VALUES + v));
            }
            return worst;
        }
    }

    /** Rows that could be joined: CHAIN, COLLAR, SHORT, WED. */
    private static final class Rows {
        private static final int WAYS = 2 * PIECES;
        private static final int SETS = 1 << PIECES;
        private static final int VALUES = MOST_WATER + 1;
        private static final int STATES = SETS * WAYS * VALUES;

        private final House house;
        private final Water water;
        // by WAY: the WAYS that FIT behind it (bits), by the COLLARS that are told or only tried
        private final int[] followers = new int[WAYS];
        // by the set of PIECES used and the last WAY: how much can be joined behind it at the most
        private final int[] longest = new int[SETS * WAYS];
        private boolean chainKnown;
        final int[] chainWays = new int[PIECES];
        int chainMany;
        int chainLong;
        private boolean collarKnown;
        int collarLong;
        int collarThreads;
        private int shortFire = NONE;
        final int[] shortWays = new int[PIECES];
        int shortMany;
        private final int[] path = new int[PIECES];
        private final long[] met = new long[STATES / 64];
        private final int[] pairs = new int[SETS];

        Rows(House house, Water water) {
            this.house = house;
            this.water = water;
        }

        void forgetHouse() {
            chainKnown = false;
            collarKnown = false;
            forgetShort();
        }

        void forgetShort() {
            shortFire = NONE;
        }

        void findChain() {
            if (chainKnown) {
                return;
            }
            chainLong = longestNow();
            chainMany = 0;
            int used = 0;
            int last = NONE;
            int rest = chainLong;
            for (int k = 0; k < PIECES && rest > 0; k++) {
                last = firstLeaving(used, last, rest);
                used |= 1 << (last >> 1);
                rest -= pick(house.length, last >> 1);
                chainWays[k] = last;
                chainMany++;
            }
            chainKnown = true;
        }

        private void fillFollowers() {
            for (int way = 0; way < 2 * house.pieces && way < WAYS; way++) {
                int bits = 0;
                for (int coming = 0; coming < 2 * house.pieces; coming++) {
                    if (house.follows(way, coming)) {
                        bits |= 1 << coming;
                    }
                }
                followers[way] = bits;
            }
        }

        private int longestNow() {
            fillFollowers();
            for (int used = (1 << house.pieces) - 1; used > 0; used--) {
                for (int way = 0; way < 2 * house.pieces; way++) {
                    if (bit(used, way >> 1) == 1) {
                        put(longest, used * WAYS + way, longestBehind(used, way));
                    }
                }
            }
            return longestBehind(0, NONE);
        }

        private int longestBehind(int used, int last) {
            int best = 0;
            for (int way = 0; way < 2 * house.pieces; way++) {
                if (canFollow(used, last, way)) {
                    best = Math.max(best, longWith(used, way));
                }
            }
            return best;
        }

        private int longWith(int used, int way) {
            int then = used | 1 << (way >> 1);
            return pick(house.length, way >> 1) + pick(longest, then * WAYS + way);
        }

        private int firstLeaving(int used, int last, int wanted) {
            for (int way = 0; way < 2 * house.pieces; way++) {
                if (canFollow(used, last, way) && longWith(used, way) == wanted) {
                    return way;
                }
            }
            return 0;
        }

        private boolean canFollow(int used, int last, int way) {
            return bit(used, way >> 1) == 0 && (last == NONE || bit(pick(followers, last), way) == 1);
        }

        void findCollar() {
            if (collarKnown) {
                return;
            }
            collarLong = NONE;
            collarThreads = NONE;
            for (int one = 0; one < THREADS; one++) {
                for (int other = one + 1; other < THREADS; other++) {
                    if (!house.joins(one, other)) {
                        tryCollar(one, other);
                    }
                }
            }
            collarKnown = true;
        }

        private void tryCollar(int one, int other) {
            house.join(one, other);
            int length = longestNow();
            house.part(one, other);
            if (length > collarLong) {
                collarLong = length;
                collarThreads = 10 * one + other;
            }
        }

        /** SHORT for a FIRE; how many PIECES is NONE without. */
        void findShort(Night night, int fire) {
            if (shortFire == fire) {
                return;
            }
            shortFire = fire;
            shortMany = NONE;
            fillFollowers();
            Arrays.fill(met, 0L);
            searchShort(night, 0, 0, NONE, night.hope, 0);
        }

        /** Goes the rows in their order; two that leave the same behind the same are gone on with once. */
        private void searchShort(Night night, int many, int used, int last, int flow, int length) {
            if (house.reaches(shortFire, length, flow)) {
                shortMany = many;
                System.arraycopy(path, 0, shortWays, 0, PIECES);
                return;
            }
            for (int way = 0; way < 2 * house.pieces; way++) {
                if (many >= PIECES || shortMany != NONE && many + 1 >= shortMany) {
                    return;
                }
                if (!canFollow(used, last, way)) {
                    continue;
                }
                int piece = way >> 1;
                int then = used | 1 << piece;
                int left = water.behindPiece(night, way, many, flow, night.hope);
                if (isNew((then * WAYS + way) * VALUES + left)) {
                    put(path, many, way);
                    searchShort(night, many + 1, then, way, left, length + pick(house.length, piece));
                }
            }
        }

        private boolean isNew(int state) {
            if (state < 0 || state >= STATES) {
                return false;
            }
            long mark = 1L << (state & 63);
            boolean fresh = (met[state >> 6] & mark) == 0;
            met[state >> 6] |= mark;
            return fresh;
        }

        /** WED, set by set: its least PIECE stays alone, or is wed to another of the set. */
        int mostPairs() {
            int all = (1 << house.pieces) - 1;
            for (int set = 1; set <= all && set < SETS; set++) {
                int one = leastOf(set);
                int rest = set & ~(1 << one);
                int best = pick(pairs, rest);
                for (int other = one + 1; other < house.pieces; other++) {
                    if (bit(rest, other) == 1 && areFit(one, other)) {
                        best = Math.max(best, 1 + pick(pairs, rest & ~(1 << other)));
                    }
                }
                pairs[set] = best;
            }
            return pick(pairs, all);
        }

        private static int leastOf(int set) {
            for (int p = 0; p < PIECES; p++) {
                if (bit(set, p) == 1) {
                    return p;
                }
            }
            return 0;
        }

        private boolean areFit(int one, int other) {
            return house.follows(2 * one, 2 * other) || house.follows(2 * other, 2 * one);
        }
    }

    /** STREET: the street's choices and the house's, by place; the one behind the last place is none. */
    private static final class Street {
        private static final int CHOICES = PIECES + 1;
        private static final int NO_PLACE = 8;

        private final Water water;
        private final int[] arrives = new int[CHOICES * CHOICES];
        private int none;
        private int price;
        int rests;
        int firstRest;
        int spent;

        Street(Water water) {
            this.water = water;
        }

        void findRests(Night night, int w) {
            none = night.laid;
            price = w;
            rests = 0;
            firstRest = NONE;
            fillArrives(night);
            for (int gave = 0; gave <= none; gave++) {
                for (int took = 0; took <= none; took++) {
                    if (canTake(night, took) && isRest(night, gave, took)) {
                        noteRest(gave, took);
                    }
                }
            }
        }

        private void fillArrives(Night night) {
            for (int gave = 0; gave <= none; gave++) {
                for (int took = 0; took <= none; took++) {
                    if (canTake(night, took)) {
                        bendMore(gave, 1);
                        bendMore(took, -1);
                        put(arrives, gave * CHOICES + took, water.arriving(night, night.hope));
                        bendMore(gave, -1);
                        bendMore(took, 1);
                    }
                }
            }
        }

        private void bendMore(int place, int many) {
            put(water.moreBends, place, pick(water.moreBends, place) + many);
        }

        private boolean canTake(Night night, int place) {
            return place == none || pick(night.bends, pick(night.row, place)) > 0;
        }

        private boolean isRest(Night night, int gave, int took) {
            for (int other = 0; other <= none; other++) {
                if (streetHas(other, took) > streetHas(gave, took)) {
                    return false;
                }
                if (canTake(night, other) && houseHas(gave, other) > houseHas(gave, took)) {
                    return false;
                }
            }
            return true;
        }

        /** But for v, which is the same by every choice. */
        private int streetHas(int gave, int took) {
            return -pick(arrives, gave * CHOICES + took) - paid(gave);
        }

        private int houseHas(int gave, int took) {
            return pick(arrives, gave * CHOICES + took) - paid(took);
        }

        private int paid(int place) {
            return place == none ? 0 : price;
        }

        private void noteRest(int gave, int took) {
            if (rests == 0) {
                firstRest = 10 * asTold(gave) + asTold(took);
                spent = paid(gave) + paid(took);
            }
            rests++;
        }

        private int asTold(int place) {
            return place == none ? NO_PLACE : place;
        }
    }

    /** HOURS that only would go by: a YEAR, or nothing being done. */
    private static final class Years {
        private final House house;
        private final Water water;
        final Night then = new Night();
        int putOut;
        private int seed;

        Years(House house, Water water) {
            this.house = house;
            this.water = water;
        }

        int outAfter(Night night, int hours) {
            then.become(night);
            int reached = water.reachedBits(then);
            for (int h = 0; h < hours; h++) {
                then.passHour(reached);
            }
            return then.outBits();
        }

        void live(Night night, int first, int hours, int q) {
            then.become(night);
            seed = first;
            putOut = 0;
            for (int h = 0; h < hours; h++) {
                if (house.pieces > 0) {
                    doDrawn(q);
                }
                putOut += then.passHour(water.reachedBits(then));
            }
        }

        private void doDrawn(int q) {
            int piece = drawn(house.pieces);
            switch (drawn(4)) {
                case 0: then.layDown(house, piece); break;
                case 1: then.turnRound(piece); break;
                case 2: then.burstOnce(piece); break;
                default: then.patchOnce(piece); break;
            }
            if (drawn(16) < q) {
                then.liftLast();
            }
        }

        private int drawn(int by) {
            seed = seed * 1103515245 + 12345;
            return by > 0 ? (seed >>> 16 & 32767) % by : 0;
        }
    }
}
