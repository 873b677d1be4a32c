import java.lang.reflect.Method;
import java.util.Arrays;
import java.util.NoSuchElementException;

/** The edges that promises 1 to 39 name: the last value that is allowed and the first that is not, empty, full, refused. */
public final class CallEdgesTest {
    private static final int NONE = Bench.NONE;
    private static final Bench.Kind[] KINDS = Bench.Kind.values();

    private interface Asked { void of(HoseDynasty x, int n); }

    private static void due(String what, long got, long want) {
        Bench.due(what, got, want);
    }

    private static void due(String what, boolean got, boolean want) {
        Bench.due(what, got, want);
    }

    private static void unfit(String what, Bench.Call call) {
        Bench.unfit(what, call);
    }

    private static void missing(String what, Bench.Call call) {
        Bench.missing(what, call);
    }

    /** From low to high nothing is thrown; below and above IllegalArgumentException. */
    private static void allowed(String what, int low, int high, Asked call) {
        HoseDynasty x = Bench.rich();
        call.of(x, low);
        call.of(x, high);
        due(what + " within is not refused", x.status(1), 0);
        unfit(what + " of " + (low - 1), y -> call.of(y, low - 1));
        unfit(what + " of " + (high + 1), y -> call.of(y, high + 1));
        for (int n : Bench.FAR_OFF) {
            unfit(what + " of " + n, y -> call.of(y, n));
        }
    }

    /** From 0 on nothing is thrown; below IllegalArgumentException. */
    private static void from0On(String what, Asked call) {
        HoseDynasty x = Bench.rich();
        call.of(x, 0);
        call.of(x, 6);
        call.of(x, Integer.MAX_VALUE);
        due(what + " within is not refused", x.status(1), 0);
        unfit(what + " of -1", y -> call.of(y, -1));
        unfit(what + " of the least number", y -> call.of(y, Integer.MIN_VALUE));
    }

    /** PIECES, COLLARS or FIRES of a full house: those there are, and NoSuchElementException for others. */
    private static void thereAre(String what, int many, Asked call) {
        HoseDynasty x = Bench.rich();
        for (int k = 0; k < many; k++) {
            call.of(x, k);
        }
        due(what + " that are there", x.status(0), 0);
        missing(what + " " + many, y -> call.of(y, many));
        missing(what + " -1", y -> call.of(y, -1));
        for (int n : Bench.FAR_OFF) {
            missing(what + " " + n, y -> call.of(y, n));
        }
        Bench.missing(what + " 0 of none", HoseDynasty::new, y -> call.of(y, 0));
        Bench.missing(what + " 1 of one", () -> Bench.of("piece 1 0 0 0;collar 0 1;fire 0 1;"), y -> call.of(y, 1));
    }

    // 1: a new object

    static void promise01_aHouseWithoutClauses() {
        int[] told = {0, 0, 0, 0, 0, 0, 0, 60, 0, 0, 0, 60};
        HoseDynasty x = new HoseDynasty();
        for (int what = 0; what < told.length; what++) {
            due("told(" + what + ")", x.told(what), told[what]);
        }
        for (int what = 0; what < 3; what++) {
            due("count(" + what + ")", x.count(what), 0);
        }
        due("fault()", x.fault(), NONE);
        due("undo()", x.undo(), -1);
        due("restore()", x.restore(), -1);
        due("status(0)", x.status(0), 0);
        due("status(1)", x.status(1), 0);
        due("no COLLAR", x.kin(0), 1);
        HoseDynasty told0 = Bench.of("");
        Bench.dueText("what a new object is", Bench.all(new HoseDynasty()), Bench.all(told0));
    }

    // 2: feed

    static void promise02_20BytesMoreEachTime() {
        HoseDynasty x = new HoseDynasty();
        for (int k = 1; k <= 30; k++) {
            due("feed " + k, x.feed(0, 0, 0, 0, 0), 20 * k);
            due("count(1)", x.count(1), 20 * k);
        }
    }

    static void promise02_moreThan600() {
        Bench.Maker full = () -> {
            HoseDynasty x = new HoseDynasty();
            Bench.feed(x, " ".repeat(593) + "hope 8;");
            return x;
        };
        HoseDynasty x = full.make();
        due("600 are there", x.count(1), 600);
        due("20 more", x.feed(1, 2, 3, 4, 5), NONE);
        due("20 more once more", x.feed(1, 2, 3, 4, 5), NONE);
        due("no call is refused by it", x.status(0) + x.status(1), 0);
        Bench.keeps("feed beyond 600", full, y -> y.feed(-1, -1, -1, -1, -1));
        due("all 600 are read", x.house(600), 0);
        due("as they were", x.told(11), 8);
        due("room again", x.feed(0, 0, 0, 0, 0), 20);
    }

    static void promise02_theHighestByteFirst() {
        HoseDynasty x = new HoseDynasty();
        x.feed('h' << 24 | 'o' << 16 | 'p' << 8 | 'e', ' ' << 24 | '4' << 16 | '2' << 8 | ';', 0, 0, 0);
        due("house(8)", x.house(8), 0);
        due("hope", x.told(11), 42);
        x.feed(0x20202020, 0x20202020, 0x20202020, 0x20202020, 0x202020ff);
        due("the last byte of the last number", x.house(20), Bench.FAULT_1);
        due("at", x.fault(), 19);
        x.feed(0xff202020, 0, 0, 0, 0);
        due("the first byte of the first", x.house(1), Bench.FAULT_1);
        due("at", x.fault(), 0);
    }

    // 3 to 6: the texts

    static void promise03_nFrom0ToTheBytes() {
        wrongN(Bench.Kind.HOUSE);
    }

    static void promise04_nFrom0ToTheBytes() {
        wrongN(Bench.Kind.LAW);
    }

    static void promise05_nFrom0ToTheBytes() {
        wrongN(Bench.Kind.WORK);
    }

    static void promise06_nFrom0ToTheBytes() {
        wrongN(Bench.Kind.BOOK);
    }

    private static void wrongN(Bench.Kind kind) {
        unfit(kind + " of -1", x -> Bench.readFed(x, kind, -1));
        unfit(kind + " of one more than there are", x -> Bench.readFed(x, kind, x.count(1) + 1));
        Bench.unfit(kind + " of 1 of none", HoseDynasty::new, x -> Bench.readFed(x, kind, 1));
        for (int n : Bench.FAR_OFF) {
            unfit(kind + " of " + n, x -> Bench.readFed(x, kind, n));
        }
        HoseDynasty x = new HoseDynasty();
        Bench.readFed(x, kind, 0);
        Bench.feed(x, " ".repeat(20));
        Bench.readFed(x, kind, 20);
        due(kind + " of none, of all", x.status(1), 0);
    }

    /** The TAPE is empty then, however few bytes were read, and whatever came of it. */
    private static void emptiesTheTape(Bench.Kind kind, String good, String bad) {
        HoseDynasty x = Bench.of(Bench.plain(2));
        for (String text : new String[] {good, bad, "", " "}) {
            Bench.feed(x, text + " ".repeat(50));
            Bench.readFed(x, kind, text.length());
            due("bytes behind " + kind + " '" + text + "'", x.count(1), 0);
        }
    }

    static void promise03_theTapeIsEmptyThen() {
        emptiesTheTape(Bench.Kind.HOUSE, "hope 1;", "hope 1");
    }

    static void promise04_theTapeIsEmptyThen() {
        emptiesTheTape(Bench.Kind.LAW, "hope", "hope 1");
    }

    static void promise05_theTapeIsEmptyThen() {
        emptiesTheTape(Bench.Kind.WORK, "hope 1;", "hope 1");
    }

    static void promise06_theTapeIsEmptyThen() {
        emptiesTheTape(Bench.Kind.BOOK, "0 1;", "0 1");
    }

    /** With a FAULT all stays but for the TAPE (emptied first by a BOOK that is none) and the place of the FAULT. */
    private static void faultKeepsAll(Bench.Kind kind, String ahead, int answer, int at) {
        HoseDynasty x = Bench.rich();
        x.book(1);
        HoseDynasty same = Bench.rich();
        same.book(1);
        due(kind + " '" + ahead + "'", Bench.read(x, kind, ahead), answer);
        due("fault", x.fault(), at);
        due("no call is refused by it", x.status(0) + x.status(1), 0);
        // the same FAULT, by a text of a kind that this test is not about
        Bench.read(same, kind == Bench.Kind.LAW ? Bench.Kind.BOOK : Bench.Kind.LAW, " ".repeat(at) + "?");
        Bench.dueText("what " + kind + " '" + ahead + "' left", Bench.all(x), Bench.all(same));
    }

    static void promise03_aFaultKeepsAll() {
        faultKeepsAll(Bench.Kind.HOUSE, "piece 30 9 9 9;collar 0 1;fire 1 1;hope 9;hope 100;", Bench.FAULT_2, 47);
        faultKeepsAll(Bench.Kind.HOUSE, "piece 30 9 9 9;hope 9", Bench.FAULT_1, 21);
        faultKeepsAll(Bench.Kind.HOUSE, "collar 0 1;".repeat(5), Bench.FAULT_3, 44);
    }

    static void promise04_aFaultKeepsAll() {
        faultKeepsAll(Bench.Kind.LAW, "1+flow+", Bench.FAULT_1, 7);
        faultKeepsAll(Bench.Kind.LAW, "7 + 1000", Bench.FAULT_2, 4);
        faultKeepsAll(Bench.Kind.LAW, "7 + ((((((( 8", Bench.FAULT_3, 10);
        faultKeepsAll(Bench.Kind.LAW, "", Bench.FAULT_1, 0);
    }

    static void promise05_aFaultKeepsAll() {
        faultKeepsAll(Bench.Kind.WORK, "lift;hour;turn 0;bend 0 9;burst 0;hope 1;lay 6;", Bench.FAULT_2, 45);
        faultKeepsAll(Bench.Kind.WORK, "lift;lift;lift;lift", Bench.FAULT_1, 19);
        faultKeepsAll(Bench.Kind.WORK, "lift;" + "again 1[".repeat(7), Bench.FAULT_3, 53);
    }

    static void promise06_aFaultKeepsAll() {
        faultKeepsAll(Bench.Kind.BOOK, "0 1;1 1;2 1;2 1;", Bench.FAULT_2, 12);
        faultKeepsAll(Bench.Kind.BOOK, "0 1;1 1", Bench.FAULT_1, 7);
    }

    static void promise03_howManyPieces() {
        HoseDynasty x = new HoseDynasty();
        for (int many = 0; many <= 6; many++) {
            due(many + " PIECES", Bench.house(x, Bench.plain(many)), many);
            due("told(0)", x.told(0), many);
        }
        due("none again", Bench.house(x, "fire 0 1;"), 0);
    }

    static void promise03_allBeginsAnew() {
        HoseDynasty x = Bench.rich();
        x.house(0);
        due("HOUR 0", x.told(3), 0);
        due("no LAW", x.would(50, 1, 1, 1, 1, 0, 1, 0, 0), 42);
        due("no BOOK", x.told(9), 0);
        due("no IMAGES", x.restore(), -1);
        due("nothing to undo", x.undo(), -1);
        due("no FAULT", x.fault(), NONE);
        due("no STEPS REFUSED", x.told(10), 0);
        HoseDynasty y = Bench.rich();
        y.house(0);
        Bench.house(y, Bench.FULL);
        Bench.dueText("a HOUSE behind another", Bench.all(y), Bench.all(Bench.of(Bench.FULL)));
    }

    static void promise03_whatWasAskedOfTheOldHouse() {
        HoseDynasty x = Bench.of("piece 30 1 1 0;piece 30 2 2 0;piece 5 1 1 0;fire 0 1;");
        due("CHAIN", x.chain(0), 35);
        due("COLLAR", x.joiner(1), 12);
        due("SHORT", x.brief(0), 0);
        due("kin", x.kin(3), 8);
        Bench.house(x, "piece 7 3 3 0;piece 8 4 5 0;collar 3 9;fire 8 1;");
        due("CHAIN", x.chain(0), 8);
        due("of one", x.chain(1), 1);
        due("PIECE 1", x.chained(0), 2);
        due("no second one", x.chained(1), NONE);
        due("COLLAR", x.joiner(0), 15);
        due("COLLAR", x.joiner(1), 34);
        due("SHORT", x.brief(0), 1);
        due("SHORT", x.briefly(0, 0), 2);
        due("kin", x.kin(3), 8 + 512);
    }

    static void promise04_whatWasAskedOfTheOldLaw() {
        HoseDynasty x = Bench.of("piece 7 3 3 0;fire 7 60;");
        due("SHORT", x.brief(0), 1);
        Bench.law(x, "flow - 1");
        due("SHORT by another LAW", x.brief(0), NONE);
        Bench.work(x, "hope 61;");
        due("SHORT by another hope", x.brief(0), 1);
        x.undo();
        due("SHORT behind undo()", x.brief(0), NONE);
        x.image();
        Bench.work(x, "hope 61;");
        due("SHORT by another hope", x.brief(0), 1);
        x.restore();
        due("SHORT behind restore()", x.brief(0), NONE);
    }

    static void promise03_17WorksByTwoHouses() {
        HoseDynasty x = new HoseDynasty();
        for (int k = 0; k < 16; k++) {
            Bench.work(x, "");
        }
        due("the 17th", Bench.work(x, ""), -20);
        x.house(0);
        due("the 17th in another HOUSE", Bench.work(x, ""), 0);
        due("WORKS", x.count(2), 1);
    }

    static void promise04_nTo150() {
        tooLong(Bench.Kind.LAW, 150, "1");
    }

    static void promise05_nTo150() {
        tooLong(Bench.Kind.WORK, 150, "");
    }

    static void promise06_nTo60() {
        tooLong(Bench.Kind.BOOK, 60, "");
    }

    private static void tooLong(Bench.Kind kind, int most, String text) {
        String bytes = text + " ".repeat(600 - text.length());
        HoseDynasty x = new HoseDynasty();
        Bench.feed(x, bytes);
        due(kind + " of " + most + " bytes", Bench.readFed(x, kind, most) >= 0, true);
        Bench.Maker full = () -> {
            HoseDynasty y = Bench.of(Bench.plain(1), "lift;");
            Bench.feed(y, bytes);
            return y;
        };
        Bench.unfit(kind + " of " + (most + 1) + " bytes", full, y -> Bench.readFed(y, kind, most + 1));
        Bench.unfit(kind + " of 600 bytes", full, y -> Bench.readFed(y, kind, 600));
        Bench.unfit("HOUSE of 601 bytes", full, y -> y.house(601));
    }

    static void promise04_isAlways1() {
        HoseDynasty x = new HoseDynasty();
        for (String text : new String[] {"0", "99", "flow-flow", "least[1,2]"}) {
            due("law " + text, Bench.law(x, text), 1);
        }
    }

    static void promise05_stepsThatWereDone() {
        HoseDynasty x = Bench.of(Bench.plain(1));
        due("none", Bench.work(x, ""), 0);
        due("agains are not counted", Bench.work(x, "again 2[again 2[];];"), 0);
        due("REFUSED ones are not counted", Bench.work(x, "lift;lay 0;lay 0;lift;lift;"), 2);
        due("but told", x.told(10), 3);
    }

    private static HoseDynasty works(int many) {
        HoseDynasty x = Bench.of("piece 1 0 0 0;");
        for (int k = 0; k < many; k++) {
            Bench.work(x, "lift;hour;");
        }
        return x;
    }

    static void promise05_16WorksAreThere() {
        HoseDynasty x = works(15);
        due("the 16th", Bench.work(x, "hour;"), 1);
        due("the 17th", Bench.work(x, "hour;"), -20);
        due("nothing was done", x.told(3), 16);
        due("WORKS", x.count(2), 16);
        due("no call is refused by it", x.status(1), 0);
        due("the 17th once more", Bench.work(x, ""), -20);
        due("one undone", x.undo(), 15);
        due("the 16th again", Bench.work(x, "hour;hour;"), 2);
        due("the 17th again", Bench.work(x, "hour;"), -20);
    }

    static void promise05_worksThatDidNothingCount() {
        HoseDynasty x = new HoseDynasty();
        for (int k = 1; k <= 16; k++) {
            due("work", Bench.work(x, k % 2 == 0 ? "" : "lift;"), 0);
            due("WORKS", x.count(2), k);
        }
        due("the 17th", Bench.work(x, ""), -20);
    }

    static void promise05_minus20AheadOfAFault() {
        HoseDynasty x = works(16);
        Bench.law(x, "  ?");
        due("fault", x.fault(), 2);
        due("a text with a FAULT", Bench.work(x, "hour"), -20);
        due("there is no FAULT", x.fault(), NONE);
        due("the TAPE is empty", x.count(1), 0);
        due("STEPS REFUSED by the latest that was done", x.told(10), 1);
        Bench.keeps("the 17th WORK", () -> works(16), y -> Bench.work(y, "lay 0;hour;"));
        HoseDynasty some = works(16);
        Bench.feed(some, "hour;".repeat(20));
        due("few of many bytes", some.work(5), -20);
        due("the TAPE is empty", some.count(1), 0);
    }

    static void promise05_aWrongNAheadOfMinus20() {
        Bench.unfit("work(1) of none", () -> works(16), x -> x.work(1));
        Bench.unfit("work(-1)", () -> works(16), x -> x.work(-1));
    }

    static void promise05_aFaultIsNoWork() {
        HoseDynasty x = works(15);
        due("a FAULT", Bench.work(x, "hour"), Bench.FAULT_1);
        due("WORKS", x.count(2), 15);
        due("the 16th", Bench.work(x, "hour;"), 1);
    }

    static void promise06_howManyLines() {
        HoseDynasty x = new HoseDynasty();
        for (int many = 6; many >= 0; many--) {
            due(many + " lines", Bench.book(x, "0 1;1 1;2 1;3 1;4 1;5 1;".substring(0, 4 * many)), many);
            due("told(9)", x.told(9), many);
        }
    }

    static void promise06_theLatestBookAlone() {
        HoseDynasty x = Bench.of(Bench.plain(1), "lay 0;");
        Bench.book(x, "5 1;");
        due("never right", x.leaks(0), 0);
        Bench.book(x, "0 59;");
        due("the line of old is gone", x.leaks(0), 1);
    }

    // 7: fault

    static void promise07_ofTheLatestText() {
        HoseDynasty x = Bench.of(Bench.plain(1));
        due("none", x.fault(), NONE);
        for (Bench.Kind kind : KINDS) {
            Bench.read(x, kind, "?");
            due(kind + ": the first byte", x.fault(), 0);
            Bench.read(x, kind, "          ?");
            due(kind + ": the 11th byte", x.fault(), 10);
            Bench.read(x, kind, kind == Bench.Kind.LAW ? "1" : "");
            due(kind + ": none", x.fault(), NONE);
        }
        Bench.house(x, " ".repeat(594) + "hope 9");
        due("the last place of all", x.fault(), 600);
    }

    static void promise07_aRefusedCallIsNoText() {
        for (Bench.Kind kind : KINDS) {
            HoseDynasty x = new HoseDynasty();
            Bench.house(x, "   ?");
            Bench.unfit(kind + " of -1", Bench::rich, y -> Bench.readFed(y, kind, -1));
            try {
                Bench.readFed(x, kind, 1);
            } catch (IllegalArgumentException e) {
                due("fault behind a refused " + kind, x.fault(), 3);
            }
            due("it was refused", x.status(1), 1);
        }
    }

    static void promise07_otherCallsKeepIt() {
        HoseDynasty x = Bench.of(Bench.plain(1), "hour;");
        Bench.law(x, "flow +");
        x.undo();
        x.image();
        x.restore();
        x.feed(0, 0, 0, 0, 0);
        x.told(0);
        due("fault", x.fault(), 6);
    }

    // 8: undo

    static void promise08_noneIsLeft() {
        HoseDynasty x = works(16);
        for (int left = 15; left >= 0; left--) {
            due("undo", x.undo(), left);
            due("HOUR", x.told(3), left);
            due("count(2)", x.count(2), left);
        }
        due("there is none", x.undo(), -1);
        due("there is none", x.undo(), -1);
        due("no call is refused by it", x.status(0) + x.status(1), 0);
        Bench.keeps("undo() of none", () -> Bench.of(Bench.FULL), HoseDynasty::undo);
        Bench.keeps("undo() of none", HoseDynasty::new, HoseDynasty::undo);
    }

    private static final String[] NIGHTS = {
        "hour;lay 0;lay 1;turn 5;bend 0 2;bend 3 7;burst 1;burst 4;hope 70;hour;",
        "lift;lift;turn 0;turn 5;turn 4;lay 3;bend 0 0;bend 5 9;patch 1;burst 2;burst 4;hope 99;hour;hour;",
        "lift;lay 4;lay 5;turn 2;bend 3 0;patch 4;patch 2;hope 0;again 12[hour;];lift;lift;lift;",
    };

    /** A WORK and its undo() against an object on which it never was done. */
    static void promise08_aWorkAndItsUndo() {
        HoseDynasty x = Bench.of(Bench.FULL, NIGHTS);
        for (int many = 2; many >= 0; many--) {
            due("undo", x.undo(), many);
            HoseDynasty same = Bench.of(Bench.FULL, Arrays.copyOf(NIGHTS, many));
            if (many > 0) {
                same.image();
                same.restore();
            }
            Bench.dueText("a WORK undone", Bench.now(x), Bench.now(same));
        }
        due("what is left of three WORKS", Bench.all(x).equals(Bench.all(Bench.of(Bench.FULL))), true);
    }

    /** An IMAGE brought back against an object that never went on from there. */
    static void promise37_anImageAndWhatFollowed() {
        for (int many = 0; many <= 2; many++) {
            String[] ahead = Arrays.copyOf(NIGHTS, many);
            HoseDynasty x = Bench.of(Bench.FULL, ahead);
            x.image();
            for (int k = 0; k < many; k++) {
                x.undo();
            }
            Bench.work(x, "lay 5;turn 0;hope 1;");
            Bench.work(x, "burst 3;bend 1 1;hour;");
            Bench.work(x, "lift;lift;");
            due("restore", x.restore(), 0);
            HoseDynasty same = Bench.of(Bench.FULL, ahead);
            Bench.dueText("an IMAGE brought back", Bench.allButRefused(x), Bench.allButRefused(same));
        }
    }

    static void promise08_aFaultOrMinus20IsNotUndone() {
        HoseDynasty x = works(16);
        Bench.work(x, "hour;");
        due("the 16th is undone", x.undo(), 15);
        due("HOUR", x.told(3), 15);
        Bench.work(x, "hour");
        due("the 15th is undone", x.undo(), 14);
        due("HOUR", x.told(3), 14);
    }

    // 9: told

    static void promise09_what() {
        allowed("told", 0, 11, (x, n) -> x.told(n));
    }

    static void promise09_full() {
        HoseDynasty x = Bench.of("piece 30 0 0 0;".repeat(6) + "collar 0 1;".repeat(4) + "fire 0 1;".repeat(5) + "hope 99;",
            "lay 5;lay 4;lay 3;lay 2;lay 1;lay 0;hour;");
        Bench.book(x, "0 1;1 1;2 1;3 1;4 1;5 1;");
        int[] told = {6, 4, 5, 1, 6, 63, 180, 99, 31, 6, 0, 99};
        for (int what = 0; what < told.length; what++) {
            due("told(" + what + ")", x.told(what), told[what]);
        }
    }

    static void promise09_stepsRefused() {
        HoseDynasty x = new HoseDynasty();
        due("ahead of any", x.told(10), 0);
        Bench.work(x, "lift;lift;");
        due("by the latest", x.told(10), 2);
        Bench.work(x, "lift;");
        due("by the latest", x.told(10), 1);
        x.undo();
        due("behind undo()", x.told(10), 0);
        x.image();
        Bench.work(x, "lift;lift;lift;");
        due("by the latest", x.told(10), 3);
        x.restore();
        due("behind restore()", x.told(10), 0);
        Bench.work(x, "lift;");
        x.image();
        due("behind image()", x.told(10), 1);
        Bench.work(x, "lift");
        due("behind a FAULT", x.told(10), 1);
        Bench.work(x, "hour;");
        due("by one without", x.told(10), 0);
    }

    // 10 to 14: what there is

    static void promise10_pieces() {
        thereAre("piece", 6, (x, n) -> x.piece(n, 0));
        thereAre("piece with a wrong what", 6, (x, n) -> x.piece(n, n >= 0 && n < x.told(0) ? 7 : 99));
    }

    static void promise10_what() {
        allowed("piece(5, what)", 0, 7, (x, n) -> x.piece(5, n));
    }

    static void promise10_theLeastAndTheGreatest() {
        HoseDynasty x = Bench.of("piece 1 0 9 0;piece 30 9 0 9;", "bend 1 9;again 9[burst 1;];turn 1;lay 1;");
        int[][] told = {{1, 0, 9, 0, 0, 0, 0, NONE}, {30, 0, 9, 9, 9, 9, 1, 0}};
        for (int p = 0; p < 2; p++) {
            for (int what = 0; what < 8; what++) {
                due("piece(" + p + ", " + what + ")", x.piece(p, what), told[p][what]);
            }
        }
    }

    static void promise11_collars() {
        thereAre("collar", 4, (x, n) -> x.collar(n, 0));
        thereAre("collar with a wrong what", 4, (x, n) -> x.collar(n, n >= 0 && n < x.told(1) ? 1 : -1));
    }

    static void promise11_what() {
        allowed("collar(3, what)", 0, 1, (x, n) -> x.collar(3, n));
    }

    static void promise11_asTold() {
        HoseDynasty x = Bench.of("collar 9 0;collar 0 9;");
        due("A", x.collar(0, 0), 9);
        due("B", x.collar(0, 1), 0);
        due("A", x.collar(1, 0), 0);
        due("B", x.collar(1, 1), 9);
    }

    static void promise12_fires() {
        thereAre("fire", 5, (x, n) -> x.fire(n, 0));
        thereAre("fire with a wrong what", 5, (x, n) -> x.fire(n, n >= 0 && n < x.told(2) ? 3 : 4));
    }

    static void promise12_what() {
        allowed("fire(4, what)", 0, 3, (x, n) -> x.fire(4, n));
    }

    static void promise12_theLeastAndTheGreatest() {
        HoseDynasty x = Bench.of("fire 0 1;fire 200 99;", "hour;");
        int[][] told = {{0, 1, 1, 0}, {200, 99, 0, NONE}};
        for (int f = 0; f < 2; f++) {
            for (int what = 0; what < 4; what++) {
                due("fire(" + f + ", " + what + ")", x.fire(f, what), told[f][what]);
            }
        }
    }

    static void promise13_k() {
        from0On("row", (x, n) -> x.row(n));
    }

    static void promise13_notSoMany() {
        HoseDynasty x = Bench.of(Bench.plain(6));
        due("of an empty ROW", x.row(0), NONE);
        Bench.work(x, "lay 5;lay 3;");
        due("the last", x.row(1), 3);
        due("the first that is not", x.row(2), NONE);
        Bench.work(x, "lift;");
        due("taken up", x.row(1), NONE);
        Bench.work(x, "lay 0;lay 1;lay 2;lay 3;lay 4;");
        due("the last of six", x.row(5), 4);
        due("a seventh", x.row(6), NONE);
    }

    static void promise14_k() {
        from0On("behind", (x, n) -> x.behind(n));
    }

    static void promise14_notSoMany() {
        HoseDynasty x = Bench.of(Bench.plain(6));
        due("of an empty ROW", x.behind(0), NONE);
        Bench.work(x, "lay 5;bend 5 1;lay 3;");
        due("the first", x.behind(0), 58);
        due("the first that is not", x.behind(2), NONE);
        Bench.work(x, "lift;");
        due("taken up", x.behind(1), NONE);
        Bench.work(x, "lay 0;lay 1;lay 2;lay 3;lay 4;burst 4;");
        due("the last of six", x.behind(5), 53);
        due("a seventh", x.behind(6), NONE);
    }

    // 15: would

    static void promise15_eachOfTheNine() {
        int[] low = {0, 0, 1, 0, 0, 0, 0, 0, 0};
        int[] high = {99, 9, 30, 9, 9, 5, 1, 99, 5};
        String[] names = {"flow", "loss", "length", "bends", "burst", "place", "turned", "hope", "piece"};
        for (int k = 0; k < names.length; k++) {
            int which = k;
            allowed("would with " + names[k], low[k], high[k], (x, n) -> {
                int[] a = low.clone();
                a[which] = n;
                x.would(a[0], a[1], a[2], a[3], a[4], a[5], a[6], a[7], a[8]);
            });
        }
    }

    static void promise15_eachByItsName() {
        String[] names = {"flow", "loss", "length", "bends", "burst", "place", "turned", "hope", "piece"};
        int[] values = {98, 8, 29, 7, 6, 5, 1, 97, 4};
        int[] high = {99, 9, 30, 9, 9, 5, 1, 99, 5};
        int[] low = {0, 0, 1, 0, 0, 0, 0, 0, 0};
        HoseDynasty x = new HoseDynasty();
        for (int k = 0; k < names.length; k++) {
            Bench.law(x, names[k]);
            for (int[] a : new int[][] {values, high, low}) {
                due(names[k], x.would(a[0], a[1], a[2], a[3], a[4], a[5], a[6], a[7], a[8]), a[k]);
            }
        }
    }

    static void promise15_whatever() {
        HoseDynasty x = new HoseDynasty();
        Bench.law(x, "piece * 10 + place");
        due("of a PIECE that is not there", x.would(0, 0, 1, 0, 0, 5, 0, 0, 5), 55);
        Bench.law(x, "turned * 50 + hope / 3");
        due("of another hope", x.would(0, 0, 1, 0, 0, 0, 1, 99, 0), 83);
        due("two wrong numbers are one refused call", refusedBy(x), 1);
    }

    private static int refusedBy(HoseDynasty x) {
        try {
            x.would(-1, -1, -1, -1, -1, -1, -1, -1, -1);
        } catch (IllegalArgumentException e) {
            return x.status(1);
        }
        return 0;
    }

    // 16, 17, 30, 33: what fits

    static void promise16_threads() {
        allowed("fits(one, 0)", 0, 9, (x, n) -> x.fits(n, 0));
        allowed("fits(0, other)", 0, 9, (x, n) -> x.fits(0, n));
        due("9 and 9", new HoseDynasty().fits(9, 9), true);
        due("0 and 0", new HoseDynasty().fits(0, 0), true);
        due("0 and 9", new HoseDynasty().fits(0, 9), false);
    }

    static void promise17_pieces() {
        thereAre("can", 6, (x, n) -> x.can(n));
    }

    static void promise17_asLay() {
        HoseDynasty x = Bench.of("piece 1 0 1 0;piece 1 2 1 0;piece 1 3 4 0;collar 3 1;");
        for (int p = 0; p < 3; p++) {
            due("on an empty ROW", x.can(p), true);
        }
        Bench.work(x, "lay 0;");
        due("in the ROW", x.can(0), false);
        due("its head does not FIT", x.can(1), false);
        due("by a COLLAR", x.can(2), true);
        Bench.work(x, "turn 1;turn 2;");
        due("turned", x.can(1), true);
        due("turned", x.can(2), false);
    }

    static void promise30_what() {
        allowed("next", 0, 1, (x, n) -> x.next(n));
    }

    static void promise30_emptyAndFull() {
        HoseDynasty x = new HoseDynasty();
        due("no PIECES", x.next(0), 0);
        due("no PIECES", x.next(1), 0);
        HoseDynasty six = Bench.of(Bench.plain(6));
        due("an empty ROW", six.next(0), 63);
        due("an empty ROW", six.next(1), 63);
        Bench.work(six, "lay 0;lay 1;lay 2;lay 3;lay 4;");
        due("the last one", six.next(0), 32);
        due("the last one", six.next(1), 32);
        Bench.work(six, "lay 5;");
        due("all lie there", six.next(0), 0);
        due("all lie there", six.next(1), 0);
    }

    static void promise30_turnedRound() {
        HoseDynasty x = Bench.of("piece 1 0 1 0;piece 1 1 2 0;piece 1 2 1 0;piece 1 1 1 0;", "lay 0;");
        due("as they are", x.next(0), 2 + 8);
        due("turned round", x.next(1), 4 + 8);
        Bench.work(x, "turn 1;turn 2;");
        due("as they are", x.next(0), 4 + 8);
        due("turned back", x.next(1), 2 + 8);
    }

    static void promise33_thread() {
        allowed("kin", 0, 9, (x, n) -> x.kin(n));
    }

    static void promise33_itselfToo() {
        HoseDynasty x = Bench.of("collar 0 9;collar 9 5;collar 9 0;");
        due("0", x.kin(0), 1 + 512);
        due("9", x.kin(9), 1 + 32 + 512);
        due("5", x.kin(5), 32 + 512);
        due("4", x.kin(4), 16);
    }

    // 18: ahead

    static void promise18_n() {
        allowed("ahead", 0, 99, (x, n) -> x.ahead(n));
    }

    static void promise18_noneAnd99() {
        HoseDynasty x = Bench.of("fire 0 60;fire 0 61;fire 0 1;", "hope 61;hour;hope 1;");
        due("now", x.ahead(0), 7);
        due("8", x.ahead(8), 7);
        due("9", x.ahead(9), 4);
        due("99", x.ahead(99), 4);
        due("nothing else being done", new HoseDynasty().ahead(99), 0);
    }

    // 19 to 23: rows

    static void promise19_what() {
        allowed("chain", 0, 1, (x, n) -> x.chain(n));
    }

    static void promise20_k() {
        from0On("chained", (x, n) -> x.chained(n));
    }

    static void promise20_notSoMany() {
        HoseDynasty x = Bench.of("piece 5 1 2 0;piece 5 3 2 0;");
        due("as told: 2 times its number", x.chained(0), 0);
        due("turned: and 1", x.chained(1), 3);
        due("not so many", x.chained(2), NONE);
        due("much beyond", x.chained(Integer.MAX_VALUE), NONE);
    }

    static void promise21_fires() {
        thereAre("brief", 5, (x, n) -> x.brief(n));
    }

    static void promise22_fires() {
        thereAre("briefly", 5, (x, n) -> x.briefly(n, 0));
        thereAre("briefly with a wrong k", 5, (x, n) -> x.briefly(n, n >= 0 && n < x.told(2) ? 0 : -1));
    }

    static void promise22_k() {
        from0On("briefly(4, k)", (x, n) -> x.briefly(4, n));
    }

    static void promise22_notSoMany() {
        HoseDynasty x = Bench.of("piece 5 1 2 0;piece 5 3 2 0;fire 10 60;fire 11 1;");
        due("as told: 2 times its number", x.briefly(0, 0), 0);
        due("turned: and 1", x.briefly(0, 1), 3);
        due("not so many", x.briefly(0, 2), NONE);
        due("none", x.briefly(1, 0), NONE);
        due("much beyond", x.briefly(0, Integer.MAX_VALUE), NONE);
    }

    static void promise23_what() {
        allowed("joiner", 0, 1, (x, n) -> x.joiner(n));
    }

    // 24, 25: the BOOK

    static void promise24_what() {
        allowed("leaks", 0, 1, (x, n) -> x.leaks(n));
    }

    static void promise25_what() {
        allowed("look", 0, 1, (x, n) -> x.look(n));
    }

    static void promise24_noPairs() {
        HoseDynasty x = Bench.of(Bench.plain(1));
        due("an empty ROW", x.leaks(0), 0);
        due("an empty ROW", x.leaks(1), NONE);
        Bench.work(x, "lay 0;");
        Bench.book(x, "0 60;");
        due("nothing more is lost", x.leaks(0), 0);
        due("nothing more is lost", x.leaks(1), NONE);
    }

    static void promise25_none() {
        HoseDynasty x = Bench.of(Bench.plain(1));
        due("an empty ROW", x.look(0), NONE);
        due("an empty ROW", x.look(1), NONE);
        Bench.work(x, "lay 0;");
        due("one place", x.look(0), 0);
        due("each leak by itself", x.look(1), 1);
        Bench.book(x, "0 60;");
        due("all are in lines", x.look(0), NONE);
        due("all are in lines", x.look(1), NONE);
    }

    // 26: wed

    static void promise26_fewest() {
        due("no PIECES", new HoseDynasty().wed(), 0);
        due("one", Bench.of(Bench.plain(1)).wed(), 0);
        due("two that do not FIT", Bench.of("piece 1 0 1 0;piece 1 2 3 0;").wed(), 0);
        due("two", Bench.of(Bench.plain(2)).wed(), 1);
        due("six", Bench.of(Bench.plain(6)).wed(), 3);
    }

    // 27: sure

    static void promise27_fires() {
        thereAre("sure", 5, (x, n) -> x.sure(n, 0, 0));
        thereAre("sure with a wrong q", 5, (x, n) -> x.sure(n, n >= 0 && n < x.told(2) ? 16 : 17, 0));
        thereAre("sure with a wrong part", 5, (x, n) -> x.sure(n, 0, n >= 0 && n < x.told(2) ? 1 : 2));
    }

    static void promise27_q() {
        allowed("sure by q", 0, 16, (x, n) -> x.sure(4, n, 0));
    }

    static void promise27_part() {
        allowed("sure, part", 0, 1, (x, n) -> x.sure(4, 8, n));
    }

    static void promise27_leastTerms() {
        HoseDynasty x = Bench.of(Bench.plain(2) + "fire 2 60;fire 2 55;fire 2 50;", "lay 0;lay 1;");
        due("a quarter", x.sure(0, 8, 0), 1);
        due("a quarter", x.sure(0, 8, 1), 4);
        due("three quarters", x.sure(1, 8, 0), 3);
        due("three quarters", x.sure(1, 8, 1), 4);
        due("the whole", x.sure(2, 8, 0), 1);
        due("the whole", x.sure(2, 8, 1), 1);
        due("225 of 256", x.sure(0, 1, 1), 256);
    }

    // 28: street

    static void promise28_v() {
        allowed("street by v", 0, 99, (x, n) -> x.street(n, 0, 0));
    }

    static void promise28_w() {
        allowed("street by w", 0, 9, (x, n) -> x.street(0, n, 0));
    }

    static void promise28_what() {
        allowed("street, what", 0, 2, (x, n) -> x.street(0, 0, n));
    }

    static void promise28_leastAndMostTogether() {
        HoseDynasty x = Bench.of(Bench.plain(1), "lay 0;bend 0 1;");
        Bench.law(x, "most[0, 90 - bends * 10]");
        due("both pay 9", x.street(0, 9, 2), -18);
        due("both pay 9", x.street(99, 9, 2), 81);
        due("none pays", x.street(99, 0, 2), 99);
    }

    // 29: share

    static void promise29_fires() {
        thereAre("share", 5, (x, n) -> x.share(n, 1, 0));
        thereAre("share with wrong bits", 5, (x, n) -> x.share(n, n >= 0 && n < x.told(2) ? 1 : 32, 0));
        thereAre("share with a wrong n", 5, (x, n) -> x.share(n, 1, n >= 0 && n < x.told(2) ? 0 : -1));
    }

    static void promise29_bitsOfNoFires() {
        allowed("share among bits", 0, 31, (x, n) -> x.share(4, n, 0));
        Bench.Maker two = () -> Bench.of("fire 0 1;fire 0 1;");
        due("bits of both", two.make().share(0, 3, 2), 1);
        Bench.unfit("a bit of a third", two, x -> x.share(0, 4, 2));
        Bench.unfit("a bit of a third, too", two, x -> x.share(0, 7, 2));
        Bench.unfit("the highest bit", two, x -> x.share(0, Integer.MIN_VALUE + 1, 2));
    }

    static void promise29_n() {
        allowed("share of n", 0, 999, (x, n) -> x.share(4, 31, n));
    }

    static void promise29_noneOfThem() {
        HoseDynasty x = Bench.of("fire 0 10;fire 0 20;");
        due("none of them", x.share(0, 2, 999), 0);
        due("none of none", x.share(0, 0, 999), 0);
        due("alone", x.share(1, 2, 999), 20);
        due("alone, less", x.share(1, 2, 19), 19);
    }

    // 31, 32

    static void promise31_what() {
        allowed("worst", 0, 1, (x, n) -> x.worst(n));
    }

    static void promise31_emptyRow() {
        HoseDynasty x = Bench.of(Bench.plain(2));
        due("no place", x.worst(0), NONE);
        due("nothing", x.worst(1), 0);
    }

    static void promise31_ofAlikeOnesTheFirst() {
        HoseDynasty x = Bench.of(Bench.plain(6), "lay 0;lay 1;lay 2;lay 3;lay 4;lay 5;");
        due("nothing is lost", x.worst(0), 0);
        due("nothing is lost", x.worst(1), 0);
        Bench.work(x, "bend 3 1;bend 4 1;");
        due("the first of two", x.worst(0), 3);
        due("how much", x.worst(1), 2);
        Bench.work(x, "bend 5 2;");
        due("the last place", x.worst(0), 5);
        due("how much", x.worst(1), 4);
    }

    static void promise31_below0() {
        HoseDynasty x = Bench.of(Bench.plain(2), "lay 0;lay 1;");
        Bench.law(x, "flow + 5 - place * 4");
        due("the place of the least more", x.worst(0), 1);
        due("it is more", x.worst(1), -1);
        Bench.law(x, "99");
        due("to 99, then the same", x.worst(0), 1);
        due("the same", x.worst(1), 0);
        Bench.work(x, "lift;");
        due("39 more", x.worst(1), -39);
    }

    static void promise32_fires() {
        thereAre("needed", 5, (x, n) -> x.needed(n));
    }

    static void promise32_from0To99() {
        HoseDynasty x = Bench.of("piece 9 0 0 0;fire 9 99;fire 9 98;fire 10 1;fire 0 1;hope 0;", "lay 0;");
        due("99", x.needed(0), 99);
        due("98", x.needed(1), 98);
        due("too far", x.needed(2), NONE);
        due("1", x.needed(3), 1);
        Bench.work(x, "bend 0 1;");
        due("101 would be needed", x.needed(0), NONE);
        due("100 would be needed", x.needed(1), NONE);
        Bench.law(x, "99");
        due("0", x.needed(0), 0);
        Bench.law(x, "99 - hope");
        due("the least of many", x.needed(1), 0);
        Bench.law(x, "hope * 2 % 7 * 33");
        due("not the first that is more, then less", x.needed(0), 2);
    }

    static void promise32_emptyRow() {
        HoseDynasty x = Bench.of("fire 0 1;fire 0 99;fire 1 1;hope 0;");
        due("1", x.needed(0), 1);
        due("99", x.needed(1), 99);
        due("too far", x.needed(2), NONE);
    }

    // 34, 35: years

    static void promise34_hours() {
        allowed("year of hours", 1, 96, (x, n) -> x.year(1, n, 0, 0));
    }

    static void promise34_q() {
        allowed("year by q", 0, 16, (x, n) -> x.year(1, 1, n, 0));
    }

    static void promise34_what() {
        allowed("year, what", 0, 3, (x, n) -> x.year(1, 1, 0, n));
    }

    static void promise34_everySeed() {
        HoseDynasty x = Bench.of(Bench.plain(3) + "fire 0 60;");
        for (int seed : new int[] {0, 1, -1, Integer.MAX_VALUE, Integer.MIN_VALUE}) {
            due("put out at once", x.year(seed, 1, 16, 0), 1);
            due("never lies there by 16", x.year(seed, 96, 16, 1), 0);
        }
        due("no call is refused by it", x.status(1), 0);
    }

    static void promise34_howOftenPutOut() {
        HoseDynasty x = Bench.of("fire 0 60;fire 0 1;fire 0 61;");
        due("two, once each", x.year(1, 1, 0, 0), 2);
        due("two, once each, however long", x.year(1, 96, 0, 0), 2);
        Bench.work(x, "hour;");
        due("out already", x.year(1, 96, 0, 0), 0);
    }

    static void promise35_many() {
        allowed("span of many", 1, 20, (x, n) -> x.span(1, n, 1, 0, 0, 0));
    }

    static void promise35_hours() {
        allowed("span of hours", 1, 96, (x, n) -> x.span(1, 1, n, 0, 0, 0));
    }

    static void promise35_q() {
        allowed("span by q", 0, 16, (x, n) -> x.span(1, 1, 1, n, 0, 0));
    }

    static void promise35_what() {
        allowed("span, what", 0, 2, (x, n) -> x.span(1, 1, 1, 0, n, 0));
    }

    static void promise35_fire() {
        for (int what = 0; what <= 2; what++) {
            int asked = what;
            allowed("span with what " + what + " of fire", 0, 4, (x, n) -> x.span(1, 1, 1, 0, asked, n));
            Bench.unfit("span of no FIRES", () -> Bench.of(Bench.plain(2)), x -> x.span(1, 1, 1, 0, asked, 0));
        }
    }

    static void promise35_seedsOneByOne() {
        HoseDynasty x = Bench.of(Bench.plain(3) + "fire 1 60;");
        int fewest = 9;
        int most = 0;
        for (int k = 0; k < 20; k++) {
            int many = Integer.bitCount(x.year(Integer.MAX_VALUE - 9 + k, 7, 3, 1));
            fewest = Math.min(fewest, many);
            most = Math.max(most, many);
        }
        due("the fewest of 20 that wrap", x.span(Integer.MAX_VALUE - 9, 20, 7, 3, 0, 0), fewest);
        due("the most of 20 that wrap", x.span(Integer.MAX_VALUE - 9, 20, 7, 3, 1, 0), most);
        due("one of them", x.span(5, 1, 7, 3, 0, 0), Integer.bitCount(x.year(5, 7, 3, 1)));
        for (int first = 0; first < 9; first++) {
            int out = 0;
            for (int k = 0; k < 6; k++) {
                out += x.span(first + k, 1, 4, 3, 2, 0);
            }
            due("out by six SEEDS from " + first, x.span(first, 6, 4, 3, 2, 0), out);
        }
    }

    static void promise35_noneAndSix() {
        HoseDynasty x = Bench.of(Bench.plain(6) + "fire 0 1;");
        due("the most by 16", x.span(1, 20, 96, 16, 1, 0), 0);
        due("the fewest by 16", x.span(1, 20, 96, 16, 0, 0), 0);
        Bench.work(x, "lay 0;lay 1;lay 2;lay 3;lay 4;lay 5;");
        due("the most by 0", x.span(1, 20, 96, 0, 1, 0), 6);
        due("the fewest by 0", x.span(1, 20, 96, 0, 0, 0), 6);
    }

    static void promise35_thatAreOutThen() {
        HoseDynasty x = Bench.of("piece 1 0 0 0;fire 0 60;fire 0 99;");
        due("by all", x.span(1, 20, 96, 16, 2, 0), 20);
        due("by none", x.span(1, 20, 96, 16, 2, 1), 0);
        due("by one", x.span(1, 1, 96, 16, 2, 0), 1);
    }

    // 36, 37: IMAGES

    static void promise36_thereAre3() {
        HoseDynasty x = Bench.of(Bench.plain(1));
        for (int many = 1; many <= 3; many++) {
            due("image", x.image(), many);
            due("count(0)", x.count(0), many);
            Bench.work(x, "hour;");
        }
        due("a fourth", x.image(), -1);
        due("count(0)", x.count(0), 3);
        due("no call is refused by it", x.status(0) + x.status(1), 0);
        due("the third, not the fourth", x.restore(), 2);
        due("HOUR", x.told(3), 2);
        due("room again", x.image(), 3);
        Bench.keeps("a fourth image()", CallEdgesTest::threeImages, HoseDynasty::image);
    }

    private static HoseDynasty threeImages() {
        HoseDynasty x = Bench.of(Bench.plain(1));
        for (int many = 0; many < 3; many++) {
            x.image();
            Bench.work(x, "hour;burst 0;lift;");
        }
        return x;
    }

    static void promise36_ofWorksThatCanBeUndone() {
        HoseDynasty x = works(16);
        x.image();
        for (int k = 0; k < 16; k++) {
            x.undo();
        }
        due("all are undone", x.count(2), 0);
        Bench.work(x, "burst 0;");
        due("restore", x.restore(), 0);
        due("16 again", x.count(2), 16);
        due("and no more", Bench.work(x, "hour;"), -20);
        for (int left = 15; left >= 0; left--) {
            due("undo", x.undo(), left);
            due("HOUR", x.told(3), left);
        }
        due("none", x.undo(), -1);
    }

    static void promise36_ofNoWorks() {
        HoseDynasty x = Bench.of(Bench.plain(1));
        x.image();
        Bench.work(x, "hour;");
        due("restore", x.restore(), 0);
        due("nothing to undo", x.undo(), -1);
        due("HOUR", x.told(3), 0);
    }

    static void promise36_notTheRest() {
        HoseDynasty x = Bench.of(Bench.plain(1), "lay 0;");
        x.image();
        Bench.law(x, "42");
        Bench.book(x, "0 41;");
        Bench.law(x, " ?");
        Bench.feed(x, "hope 7;");
        x.restore();
        due("the LAW stays", x.told(7), 42);
        due("the BOOK stays", x.told(9), 1);
        due("the FAULT stays", x.fault(), 1);
        due("the TAPE stays", x.count(1), 20);
    }

    static void promise37_thereIsNone() {
        HoseDynasty x = threeImages();
        for (int left = 2; left >= 0; left--) {
            due("restore", x.restore(), left);
            due("HOUR", x.told(3), left);
            due("bursts", x.piece(0, 5), left);
            due("WORKS", x.count(2), left);
        }
        due("there is none", x.restore(), -1);
        due("there is none", x.restore(), -1);
        due("no call is refused by it", x.status(0) + x.status(1), 0);
        Bench.keeps("restore() of none", HoseDynasty::new, HoseDynasty::restore);
        Bench.keeps("restore() of none", () -> works(16), HoseDynasty::restore);
    }

    static void promise37_theLatestImage() {
        HoseDynasty x = Bench.of(Bench.plain(1));
        x.image();
        Bench.work(x, "hour;");
        x.image();
        x.restore();
        x.image();
        Bench.work(x, "hour;");
        due("one is left", x.restore(), 1);
        due("HOUR", x.told(3), 1);
        due("none is left", x.restore(), 0);
        due("HOUR", x.told(3), 0);
    }

    // 38, 39

    static void promise38_what() {
        HoseDynasty x = new HoseDynasty();
        due("status(0)", x.status(0), 0);
        due("status(1)", x.status(1), 0);
        due("status(2)", x.status(2), NONE);
        due("status(-1)", x.status(-1), NONE);
        for (int n : Bench.FAR_OFF) {
            due("status(" + n + ")", x.status(n), NONE);
        }
        due("none is refused by it", x.status(1), 0);
    }

    static void promise38_noImageKeepsIt() {
        HoseDynasty x = Bench.of(Bench.plain(1));
        x.image();
        try {
            x.can(1);
        } catch (NoSuchElementException e) {
            due("status(0)", x.status(0), 1);
        }
        try {
            x.kin(10);
        } catch (IllegalArgumentException e) {
            due("status(1)", x.status(1), 1);
        }
        x.restore();
        x.undo();
        due("status(0) behind restore()", x.status(0), 1);
        due("status(1) behind restore()", x.status(1), 1);
        x.house(0);
        due("status(0) behind house()", x.status(0), 1);
        due("status(1) behind house()", x.status(1), 1);
    }

    static void promise38_answersAreNotRefused() {
        HoseDynasty x = works(16);
        Bench.feed(x, " ".repeat(600));
        x.feed(0, 0, 0, 0, 0);
        Bench.readFed(x, Bench.Kind.WORK, 5);
        Bench.law(x, "");
        x.restore();
        x.row(99);
        x.chained(99);
        x.status(9);
        x.count(9);
        due("status(0)", x.status(0), 0);
        due("status(1)", x.status(1), 0);
    }

    static void promise39_what() {
        HoseDynasty x = Bench.rich();
        due("IMAGES", x.count(0), 2);
        due("bytes", x.count(1), 40);
        due("WORKS", x.count(2), 4);
        due("count(3)", x.count(3), NONE);
        due("count(-1)", x.count(-1), NONE);
        for (int n : Bench.FAR_OFF) {
            due("count(" + n + ")", x.count(n), NONE);
        }
        due("none is refused by it", x.status(1), 0);
    }

    /** Each promise has a test of its own here. */
    private static void eachPromiseIsTested() {
        for (int p = 1; p <= 39; p++) {
            String start = "promise" + (p < 10 ? "0" : "") + p + "_";
            boolean tested = false;
            for (Method method : CallEdgesTest.class.getDeclaredMethods()) {
                tested = tested || Bench.isTest(method) && method.getName().startsWith(start);
            }
            due("promise " + p + " has a test of its edges", tested, true);
        }
    }

    public static void main(String[] args) {
        eachPromiseIsTested();
        Bench.run(CallEdgesTest.class);
    }
}
