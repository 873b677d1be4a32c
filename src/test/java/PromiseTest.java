import java.util.NoSuchElementException;

/** At least one run for each promise: ordinary inputs, the edges that the document names, wrong inputs. */
public final class PromiseTest {
    private static final String HOUSE = "piece 10 1 2 3;piece 20 2 3 5;piece 5 3 1 0;piece 8 4 4 9;"
        + "collar 1 4;fire 30 40;fire 10 70;fire 0 99;hope 60;";

    private interface Call { void go(); }

    private static void due(String what, long got, long want) {
        Bench.due(what, got, want);
    }

    private static void due(String what, boolean got, boolean want) {
        Bench.due(what, got, want);
    }

    private static void throwsUnfit(String what, Call call) {
        due(what + " throws IllegalArgumentException", thrown(call, IllegalArgumentException.class), true);
    }

    private static void throwsMissing(String what, Call call) {
        due(what + " throws NoSuchElementException", thrown(call, NoSuchElementException.class), true);
    }

    private static boolean thrown(Call call, Class<?> wanted) {
        try {
            call.go();
        } catch (RuntimeException e) {
            return e.getClass() == wanted;
        }
        return false;
    }

    private static int feed(HoseDynasty x, String text) {
        return Bench.feed(x, text);
    }

    private static int house(HoseDynasty x, String text) {
        return Bench.house(x, text);
    }

    private static int law(HoseDynasty x, String text) {
        return Bench.law(x, text);
    }

    private static int work(HoseDynasty x, String text) {
        return Bench.work(x, text);
    }

    private static int book(HoseDynasty x, String text) {
        return Bench.book(x, text);
    }

    private static HoseDynasty of(String house, String... works) {
        return Bench.of(house, works);
    }

    private static void badHouse(String text, int answer, int at) {
        Bench.bad(HoseDynasty::new, Bench.Kind.HOUSE, text, answer, at);
    }

    private static void badLaw(String text, int answer, int at) {
        Bench.bad(HoseDynasty::new, Bench.Kind.LAW, text, answer, at);
    }

    private static void badWork(String text, int answer, int at) {
        Bench.bad(() -> of("piece 1 0 0 0;piece 1 0 0 0;"), Bench.Kind.WORK, text, answer, at);
    }

    private static void badBook(String text, int answer, int at) {
        Bench.bad(HoseDynasty::new, Bench.Kind.BOOK, text, answer, at);
    }

    static void promise01_newObject() {
        HoseDynasty x = new HoseDynasty();
        int[] told = {0, 0, 0, 0, 0, 0, 0, 60, 0, 0, 0, 60};
        for (int what = 0; what < told.length; what++) {
            due("told(" + what + ")", x.told(what), told[what]);
        }
        due("fault()", x.fault(), -1);
        due("NONE", HoseDynasty.NONE, -1);
        for (int what = 0; what < 3; what++) {
            due("count(" + what + ")", x.count(what), 0);
        }
    }

    static void promise02_feeding() {
        HoseDynasty x = new HoseDynasty();
        for (int k = 1; k <= 30; k++) {
            due("feed", x.feed(k, k, k, k, k), 20 * k);
        }
        due("feed beyond 600", x.feed(0, 0, 0, 0, 0), -1);
        due("it did nothing", x.count(1), 600);
        HoseDynasty y = new HoseDynasty();
        y.feed(0x686f7065, 0x2037313b, 0xff800000, 0, 0);
        due("the highest byte first", y.house(8), 0);
        due("hope told", y.told(11), 71);
        y.feed(0x686f7065, 0x20373bff, 0, 0, 0);
        due("a byte above 127 can't stand", y.house(8), -9);
        due("it is at", y.fault(), 7);
    }

    static void promise03_housing() {
        HoseDynasty x = new HoseDynasty();
        due("house", house(x, HOUSE), 4);
        due("without blanks, more blanks", house(x, "hope1;  piece  10  1 2   003  ; hope  2 ; "), 1);
        due("the last hope counts", x.told(11), 2);
        due("numbers as many digits as there are", x.piece(0, 3), 3);
        due("an empty house", house(x, ""), 0);
        due("blanks alone", house(x, "   "), 0);
        due("hope without", x.told(11), 60);
        badHouse("piece 0 0 0 0;", -8, 6);
        badHouse("piece 30 9 9 10;", -8, 13);
        badHouse("collar 3 3;", -8, 9);
        badHouse("collar 3 10;", -8, 9);
        badHouse("piece 1 10 0 0;", -8, 8);
        badHouse("piece 1 0 10 0;", -8, 10);
        badHouse("collar 10 3;", -8, 7);
        badHouse("fire 201 0;", -8, 5);
        badHouse("fire 200 100;", -8, 9);
        badHouse("hope 99999999999999999999;", -8, 5);
        badHouse("hope 4294967297;", -8, 5);
        badHouse("pie", -9, 0);
        badHouse("Hope 1;", -9, 0);
        badHouse("hope", -9, 4);
        badHouse("hope   ", -9, 7);
        badHouse("hope 1  ", -9, 8);
        badHouse("hope 1 2;", -9, 7);
        badHouse("hope;", -9, 4);
        badHouse("hope -1;", -9, 5);
        badHouse(";", -9, 0);
        badHouse("hope 1;;", -9, 7);
        badHouse("hope 100x", -8, 5);
        badHouse("  hopes 1;", -9, 2);
        badHouse("piece 1 0 0 0;".repeat(6) + " piece x", -7, 85);
        badHouse("collar 0 1;".repeat(4) + "collar 0 1;", -7, 44);
        badHouse("fire 0 1;".repeat(5) + "fire", -7, 45);
        due("the least and the greatest", house(x, "piece 1 0 9 0;piece 30 9 0 9;collar 0 9;fire 0 1;fire 200 99;hope 99;hope 0;"), 2);
        due("hope 0", x.told(11), 0);
        feed(x, "hope 12;");
        due("digits behind the text are not read", x.house(6), -9);
        due("it ends too early", x.fault(), 6);
        feed(x, "hope 1  ;");
        due("blanks behind the text are not read", x.house(7), -9);
        due("it ends too early", x.fault(), 7);
        due("60 clauses", house(x, "hope1;".repeat(60)), 0);
        badHouse("hope1;".repeat(61), -7, 360);
        badHouse("hope1;".repeat(60) + "hop1;", -9, 360);
        badHouse("hope1;".repeat(60) + "1", -9, 360);
    }

    static void promise03_houseKeepsOrClears() {
        HoseDynasty x = of(HOUSE, "lay 0;hour;lift;lift;");
        law(x, "7");
        book(x, "0 1;");
        x.image();
        due("chain", x.chain(0), 43);
        due("joiner", x.joiner(1), 1);
        due("brief", x.brief(0), -1);
        due("a house with a fault", house(x, "piece 1 1 1 1;hope 100;"), -8);
        due("pieces stay", x.told(0), 4);
        due("hour stays", x.told(3), 1);
        due("book stays", x.told(9), 1);
        due("images stay", x.count(0), 1);
        due("works stay", x.count(2), 1);
        due("refused stays", x.told(10), 1);
        due("law stays", x.would(50, 0, 1, 0, 0, 0, 0, 0, 0), 7);
        due("the tape is empty", x.count(1), 0);
        work(x, "hope 99;hour;turn 1;lay 0;bend 0 5;burst 0;");
        due("another house", house(x, "piece 9 0 0 0;piece 1 1 2 0;fire 9 60;"), 2);
        due("the row is empty", x.told(4), 0);
        due("no fire is out", x.told(8), 0);
        due("the hope without", x.told(11), 60);
        due("no bends", x.piece(0, 4), 0);
        due("no bursts", x.piece(0, 5), 0);
        due("nothing is turned", x.piece(1, 6), 0);
        due("another chain", x.chain(0), 9);
        due("of one", x.chained(1), -1);
        due("another joiner", x.joiner(0), 10);
        due("another short", x.brief(0), 1);
        due("hour 0", x.told(3), 0);
        due("no law", x.would(50, 0, 1, 0, 0, 0, 0, 0, 0), 50);
        due("no book", x.told(9), 0);
        due("no images", x.count(0), 0);
        due("nothing to undo", x.undo(), -1);
        due("nothing refused yet", x.told(10), 0);
        due("no collars", x.told(1), 0);
        due("one fire", x.told(2), 1);
        due("threads of the old collar", x.fits(1, 4), false);
        feed(x, "hope 1;");
        throwsUnfit("house(21)", () -> x.house(21));
        throwsUnfit("house(-1)", () -> x.house(-1));
        due("the tape stays", x.count(1), 20);
        due("fewer bytes than there are", x.house(7), 0);
        due("hope", x.told(11), 1);
        due("the rest is gone", x.count(1), 0);
    }

    static void promise04_lawing() {
        HoseDynasty x = new HoseDynasty();
        due("law", law(x, " flow*9/10 - loss + length%4 "), 1);
        due("by it", x.would(50, 4, 7, 0, 0, 0, 0, 0, 0), 45 - 4 + 3);
        law(x, "flow-loss-length");
        due("left to right", x.would(50, 4, 7, 0, 0, 0, 0, 0, 0), 39);
        law(x, "100/7*7%50+0*flow");
        due("left to right, too", x.would(0, 0, 1, 0, 0, 0, 0, 0, 0), 48);
        law(x, "0-7/2+10");
        due("/ cuts", x.would(0, 0, 1, 0, 0, 0, 0, 0, 0), 7);
        law(x, "(0-7)/2+10");
        due("/ cuts below 0", x.would(0, 0, 1, 0, 0, 0, 0, 0, 0), 7);
        law(x, "(0-7)%4+10");
        due("% has the sign of what is divided", x.would(0, 0, 1, 0, 0, 0, 0, 0, 0), 7);
        law(x, "7%(0-4)+10");
        due("% by below 0", x.would(0, 0, 1, 0, 0, 0, 0, 0, 0), 13);
        law(x, "5+9/flow+9%flow");
        due("by 0 both are 0", x.would(0, 0, 1, 0, 0, 0, 0, 0, 0), 5);
        law(x, "999*999*999*5/999/999/99");
        due("32 bits that wrap", x.would(0, 0, 1, 0, 0, 0, 0, 0, 0), 6);
        law(x, "(0-512*512*128*64)/(0-1)+(0-512*512*128*64)%(0-1)+flow");
        due("the least by -1", x.would(9, 0, 1, 0, 0, 0, 0, 0, 0), 0);
        law(x, "least[most[flow,20],30]");
        due("least and most", x.would(5, 0, 1, 0, 0, 0, 0, 0, 0), 20);
        due("least and most", x.would(25, 0, 1, 0, 0, 0, 0, 0, 0), 25);
        due("least and most", x.would(99, 0, 1, 0, 0, 0, 0, 0, 0), 30);
        law(x, "0-1");
        due("0 at least", x.would(99, 0, 1, 0, 0, 0, 0, 0, 0), 0);
        law(x, "999");
        due("99 at most", x.would(99, 0, 1, 0, 0, 0, 0, 0, 0), 99);
        due("seven open", law(x, "(least[most[((((1+flow)))),2],3])"), -7);
        due("seven open, at", x.fault(), 15);
        due("six open, twice", law(x, "((((((1))))))+least[((((((1)))))),1]"), -7);
        due("the second of two is inside, too", law(x, "least[1,((((((1))))))]"), -7);
        due("at its seventh", x.fault(), 13);
        feed(x, "flows");
        due("letters behind the text are not read", x.law(4), 1);
        due("six open, then six", law(x, "((((((1))))))+least[(((((1))))),most[((((1)))),5]]"), 1);
        due("the latter counts", x.would(0, 0, 1, 0, 0, 0, 0, 0, 0), 2);
        badLaw("", -9, 0);
        badLaw("  ", -9, 2);
        badLaw("flow flow", -9, 5);
        badLaw("flow +", -9, 6);
        badLaw("-1", -9, 0);
        badLaw("1000+", -8, 0);
        badLaw("1+ 1000", -8, 3);
        badLaw("(1", -9, 2);
        badLaw("1)", -9, 1);
        badLaw("least 1", -9, 6);
        badLaw("least[1]", -9, 7);
        badLaw("most[1,2", -9, 8);
        badLaw("most[1,2)", -9, 8);
        badLaw("flowing", -9, 0);
        badLaw("((((((least x", -7, 6);
        badLaw("((((((lest x", -9, 6);
        badLaw("1;", -9, 1);
        HoseDynasty y = new HoseDynasty();
        due("150 bytes", law(y, "0".repeat(149) + "7"), 1);
        feed(y, "0".repeat(151));
        throwsUnfit("law(151)", () -> y.law(151));
        due("the tape stays", y.count(1), 160);
        due("a fault leaves the law", y.law(3) == 1 && law(y, "9+") == -9, true);
        due("the law that stays", y.would(50, 0, 1, 0, 0, 0, 0, 0, 0), 0);
    }

    static void promise05_working() {
        HoseDynasty x = of("piece 3 0 1 0;piece 4 1 2 0;piece 5 7 8 0;fire 0 60;");
        due("turn and back", work(x, "turn 0;turn 0;"), 2);
        due("lay", work(x, "lay 0;lay 1;lay 1;lay 2;turn 0;"), 2);
        due("refused: laid, not fit, turned in the row", x.told(10), 3);
        due("lift", work(x, "lift;lift;lift;"), 2);
        due("refused: empty", x.told(10), 1);
        due("bend", work(x, "bend 0 0;bend 0 9;bend 0 9;bend 0 3;"), 2);
        due("refused: there are", x.told(10), 2);
        due("burst", work(x, "again 10[burst 1;];"), 9);
        due("refused: it has 9", x.told(10), 1);
        due("patch", work(x, "again 10[patch 1;];"), 9);
        due("refused: it has none", x.told(10), 1);
        due("hope", work(x, "hope 60;hope 0;hope 0;hope 99;"), 2);
        due("refused: it is", x.told(10), 2);
        due("nothing", work(x, ""), 0);
        due("nothing refused", x.told(10), 0);
        due("again 0", work(x, "again 0[hour;];hour;again 30[];"), 1);
        due("again within", work(x, "again 2[hour;again 3 [ hour ; ] ; ] ;"), 8);
        due("a fault keeps what was refused", work(x, "lift;lift") == -9 && x.told(10) == 0, true);
        HoseDynasty y = new HoseDynasty();
        due("200 are begun", work(y, "again 30[again 30[again 30[hour;];];];"), 200 - 1 - 1 - 7);
        due("200 are begun, the first row", work(y, "again 30[hour;hour;hour;hour;hour;hour;hour;];lift;"), 199);
        due("what comes behind is left out", y.told(10), 0);
        due("refused ones are begun, too", work(y, "again 30[lift;lift;lift;lift;lift;lift;hour;];"), 28);
        due("refused", y.told(10), 171);
        HoseDynasty z = new HoseDynasty();
        due("an again is begun each time", work(z, "again 30[" + "again 0[];".repeat(6) + "hour;];"), 28);
        due("500 hours", work(z, "again 30[hour;hour;hour;hour;hour;hour;];"), 180);
        due("500 hours", work(z, "again 30[hour;hour;hour;hour;hour;hour;];"), 180);
        due("500 hours", work(z, "again 29[hour;hour;hour;hour;];"), 500 - 28 - 360);
        due("refused from 500 on", z.told(10), 4);
        due("the hour", z.told(3), 500);
    }

    static void promise05_workFaults() {
        badWork("turn 2;", -8, 5);
        badWork("lay 2;", -8, 4);
        badWork("bend 2 10;", -8, 5);
        badWork("bend 1 10;", -8, 7);
        badWork("bend 1;", -9, 6);
        badWork("burst 2;", -8, 6);
        badWork("patch 2;", -8, 6);
        badWork("hope 100;", -8, 5);
        badWork("again 31[];", -8, 6);
        badWork("again 3 hour;", -9, 8);
        badWork("again 3 [hour;]", -9, 15);
        badWork("again 3 [hour;", -9, 14);
        badWork("again 3 [hour];", -9, 13);
        badWork("hour;];", -9, 5);
        badWork("lift 1;", -9, 5);
        badWork("laying 1;", -9, 0);
        badWork("hour; lay x", -9, 10);
        badWork("again1[".repeat(6) + "again1[", -7, 42);
        badWork("again1[".repeat(6) + "  again", -7, 44);
        HoseDynasty none = new HoseDynasty();
        due("no piece at all", work(none, "lay 0;"), -8);
        HoseDynasty x = of("piece 1 0 0 0;piece 1 0 0 0;");
        due("six open", work(x, "again1[".repeat(6) + "hour;" + "];".repeat(6)), 1);
        due("six open, twice", work(x, ("again1[".repeat(6) + "hour;" + "];".repeat(6)).repeat(2)), 2);
        feed(x, "hour;".repeat(31));
        throwsUnfit("work(151)", () -> x.work(151));
        throwsUnfit("work(-1)", () -> x.work(-1));
        due("work(150)", x.work(150), 30);
        HoseDynasty y = new HoseDynasty();
        for (int k = 0; k < 16; k++) {
            due("work " + k, work(y, "hour;"), 1);
        }
        due("a fault", law(y, " x"), -9);
        due("16 works are there", work(y, "x"), -20);
        due("there is no fault", y.fault(), -1);
        due("the tape is empty", y.count(1), 0);
        due("nothing was done", y.told(3), 16);
        throwsUnfit("work(1) of no bytes", () -> y.work(1));
        due("undo", y.undo(), 15);
        due("one more", work(y, "hour;hour;"), 2);
    }

    static void promise06_booking() {
        HoseDynasty x = new HoseDynasty();
        due("book", book(x, "0 1;5 99; 3  0 ;"), 3);
        due("lines", x.told(9), 3);
        due("six", book(x, "0 1;1 1;2 1;3 1;4 1;5 1;"), 6);
        due("a fault", book(x, "0 1;0 1;"), -8);
        due("it stays", x.told(9), 6);
        due("none", book(x, ""), 0);
        badBook("6 0;", -8, 0);
        badBook("0 100;", -8, 2);
        badBook("0 1;0 2;", -8, 4);
        badBook("0 1;1 1;2 1;3 1;4 1;5 1;0 1;", -8, 24);
        badBook("0 1;1 1;2 1;3 1;4 1;5 1;6 1;", -8, 24);
        badBook("0 1;1 1;2 1;3 1;4 1;5 1;x", -9, 24);
        badBook("0;", -9, 1);
        badBook("0 1", -9, 3);
        badBook("a", -9, 0);
        feed(x, " ".repeat(61));
        throwsUnfit("book(61)", () -> x.book(61));
        due("book(60)", x.book(60), 0);
    }

    static void promise07_faulting() {
        HoseDynasty x = new HoseDynasty();
        due("none yet", x.fault(), -1);
        house(x, "hope x");
        due("of a house", x.fault(), 5);
        throwsUnfit("law(9)", () -> x.law(9));
        due("a refused call is no text", x.fault(), 5);
        law(x, "1++");
        due("of a law", x.fault(), 2);
        work(x, "hour;");
        due("of a good work", x.fault(), -1);
        book(x, "00 1;0000 1;");
        due("of a book", x.fault(), 5);
    }

    static void promise08_undoing() {
        HoseDynasty x = of(HOUSE, "lay 0;hour;bend 0 2;burst 1;turn 3;hope 99;");
        work(x, "lift;hour;lift;turn 0;lay 2;bend 0 0;burst 1;patch 1;patch 1;turn 3;hope 5;");
        due("refused", x.told(10), 1);
        due("fire 2 is out", x.told(8), 4);
        due("undo", x.undo(), 1);
        due("refused behind undo", x.told(10), 0);
        due("no fire is out", x.told(8), 0);
        due("the row", x.told(5), 1);
        due("the hour", x.told(3), 1);
        due("bends", x.piece(0, 4), 2);
        due("bursts", x.piece(1, 5), 1);
        due("turned", x.piece(3, 6), 1);
        due("turned back", x.piece(0, 6), 0);
        due("hope", x.told(11), 99);
        due("undo", x.undo(), 0);
        due("the row", x.told(4), 0);
        due("the hour", x.told(3), 0);
        due("bends", x.piece(0, 4), 0);
        due("bursts", x.piece(1, 5), 0);
        due("turned", x.piece(3, 6), 0);
        due("hope", x.told(11), 60);
        due("none", x.undo(), -1);
    }

    static void promise09_telling() {
        HoseDynasty x = of(HOUSE, "hope 99;hour;turn 3;lay 3;lay 0;lay 3;hour;");
        int[] told = {4, 1, 3, 2, 2, 9, 18, 87, 6, 0, 1, 99};
        for (int what = 0; what < told.length; what++) {
            due("told(" + what + ")", x.told(what), told[what]);
        }
        throwsUnfit("told(-1)", () -> x.told(-1));
        throwsUnfit("told(12)", () -> x.told(12));
    }

    static void promise10_onePiece() {
        HoseDynasty x = of("piece 7 1 2 3;piece 8 4 5 6;", "turn 0;lay 1;bend 0 9;burst 0;");
        int[] told = {7, 2, 1, 3, 9, 1, 1, -1};
        for (int what = 0; what < told.length; what++) {
            due("piece(0, " + what + ")", x.piece(0, what), told[what]);
        }
        due("its place", x.piece(1, 7), 0);
        due("its head", x.piece(1, 1), 4);
        throwsMissing("piece(2, 0)", () -> x.piece(2, 0));
        throwsMissing("piece(-1, 99)", () -> x.piece(-1, 99));
        throwsUnfit("piece(0, 8)", () -> x.piece(0, 8));
        throwsUnfit("piece(0, -1)", () -> x.piece(0, -1));
    }

    static void promise11_oneCollar() {
        HoseDynasty x = of("collar 9 3;collar 0 1;");
        due("collar(0, 0)", x.collar(0, 0), 9);
        due("collar(0, 1)", x.collar(0, 1), 3);
        due("collar(1, 1)", x.collar(1, 1), 1);
        throwsMissing("collar(2, 0)", () -> x.collar(2, 0));
        throwsMissing("collar(-1, 2)", () -> x.collar(-1, 2));
        throwsUnfit("collar(1, 2)", () -> x.collar(1, 2));
        throwsUnfit("collar(1, -1)", () -> x.collar(1, -1));
    }

    static void promise12_oneFire() {
        HoseDynasty x = of("piece 10 0 0 1;fire 10 59;fire 11 1;fire 0 60;", "hour;lay 0;hour;");
        due("D", x.fire(1, 0), 11);
        due("N", x.fire(0, 1), 59);
        due("reached: as long, as much", x.fire(0, 2), 1);
        due("not reached: too far", x.fire(1, 2), 0);
        due("not reached: too little", x.fire(2, 2), 0);
        due("out in hour 1", x.fire(0, 3), 1);
        due("burns", x.fire(1, 3), -1);
        due("out in hour 0", x.fire(2, 3), 0);
        due("8 hours later", work(x, "again 7[hour;];") == 7 && x.fire(2, 3) == 0, true);
        due("9 hours later", work(x, "hour;") == 1 && x.fire(2, 3) == -1, true);
        due("the last time", x.fire(0, 3), 9);
        throwsMissing("fire(3, 0)", () -> x.fire(3, 0));
        throwsMissing("fire(-1, 9)", () -> x.fire(-1, 9));
        throwsUnfit("fire(0, 4)", () -> x.fire(0, 4));
        throwsUnfit("fire(0, -1)", () -> x.fire(0, -1));
    }

    static void promise13_theRow() {
        HoseDynasty x = of("piece 1 0 0 0;piece 1 0 0 0;piece 1 0 0 0;", "lay 2;lay 0;");
        due("row(0)", x.row(0), 2);
        due("row(1)", x.row(1), 0);
        due("row(2)", x.row(2), -1);
        due("row of much", x.row(Integer.MAX_VALUE), -1);
        throwsUnfit("row(-1)", () -> x.row(-1));
    }

    static void promise14_theWaterBehind() {
        HoseDynasty x = of("piece 1 0 0 3;piece 2 0 0 9;piece 3 0 0 0;hope 50;", "lay 1;lay 2;bend 1 2;burst 2;");
        due("behind(0)", x.behind(0), 50 - 9 - 4);
        due("behind(1)", x.behind(1), 37 - 5);
        due("behind(2)", x.behind(2), -1);
        law(x, "flow+place*10+piece+hope+length-50");
        due("behind(0) by a law", x.behind(0), 50 + 0 + 1 + 50 + 2 - 50);
        due("behind(1) by a law", x.behind(1), 53 + 10 + 2 + 50 + 3 - 50);
        law(x, "flow*2");
        due("99 at most", x.behind(0), 99);
        law(x, "flow-99");
        due("0 at least", x.behind(1), 0);
        throwsUnfit("behind(-1)", () -> x.behind(-1));
    }

    static void promise15_wouldBeLeft() {
        HoseDynasty x = new HoseDynasty();
        due("without law", x.would(99, 9, 30, 9, 9, 5, 1, 99, 5), 99 - 9 - 18 - 45);
        String[] names = {"flow", "loss", "length", "bends", "burst", "place", "turned", "hope", "piece"};
        int[] values = {98, 8, 29, 7, 6, 5, 1, 97, 4};
        for (int k = 0; k < names.length; k++) {
            law(x, names[k]);
            due(names[k], x.would(98, 8, 29, 7, 6, 5, 1, 97, 4), values[k]);
        }
        int[] low = {0, 0, 1, 0, 0, 0, 0, 0, 0};
        int[] high = {99, 9, 30, 9, 9, 5, 1, 99, 5};
        for (int k = 0; k < low.length; k++) {
            int[] a = low.clone();
            a[k] = low[k] - 1;
            throwsUnfit("would with too little at " + k, () -> x.would(a[0], a[1], a[2], a[3], a[4], a[5], a[6], a[7], a[8]));
            int[] b = high.clone();
            b[k] = high[k] + 1;
            throwsUnfit("would with too much at " + k, () -> x.would(b[0], b[1], b[2], b[3], b[4], b[5], b[6], b[7], b[8]));
        }
        due("each was refused once", x.status(1), 18);
    }

    static void promise16_33_fitting() {
        HoseDynasty x = of("collar 1 4;collar 4 7;");
        due("the same", x.fits(9, 9), true);
        due("joined", x.fits(1, 4), true);
        due("either way", x.fits(4, 1), true);
        due("not over two collars", x.fits(1, 7), false);
        throwsUnfit("fits(10, 0)", () -> x.fits(10, 0));
        throwsUnfit("fits(0, 10)", () -> x.fits(0, 10));
        throwsUnfit("fits(-1, 0)", () -> x.fits(-1, 0));
        throwsUnfit("fits(0, -1)", () -> x.fits(0, -1));
        due("kin(4)", x.kin(4), 2 + 16 + 128);
        due("kin(7)", x.kin(7), 16 + 128);
        due("kin(0)", x.kin(0), 1);
        throwsUnfit("kin(-1)", () -> x.kin(-1));
        throwsUnfit("kin(10)", () -> x.kin(10));
    }

    static void promise17_30_canAndNext() {
        HoseDynasty x = of("piece 1 0 1 0;piece 1 1 2 0;piece 1 3 1 0;piece 1 5 6 0;collar 1 6;");
        due("all at first", x.next(0), 15);
        due("all at first, turned round", x.next(1), 15);
        work(x, "lay 0;");
        due("can(0): it lies there", x.can(0), false);
        due("can(1)", x.can(1), true);
        due("can(2)", x.can(2), false);
        due("next(0)", x.next(0), 2);
        due("next(1)", x.next(1), 4 + 8);
        work(x, "turn 2;turn 1;");
        due("can(2), turned", x.can(2), true);
        due("next(0), turned", x.next(0), 4);
        due("next(1), turned back", x.next(1), 2 + 8);
        throwsMissing("can(4)", () -> x.can(4));
        throwsMissing("can(-1)", () -> x.can(-1));
        throwsUnfit("next(2)", () -> x.next(2));
        throwsUnfit("next(-1)", () -> x.next(-1));
    }

    static void promise18_hoursAhead() {
        HoseDynasty x = of("piece 5 0 0 5;fire 0 60;fire 5 50;", "hour;lay 0;");
        due("ahead(0)", x.ahead(0), 1);
        due("ahead(1)", x.ahead(1), 3);
        due("ahead(8)", x.ahead(8), 3);
        due("ahead(9): hour 9 is 9 behind hour 0", x.ahead(9), 2);
        due("ahead(99)", x.ahead(99), 2);
        due("nothing stays changed", x.told(3), 1);
        due("nothing stays changed", x.told(8), 1);
        throwsUnfit("ahead(-1)", () -> x.ahead(-1));
        throwsUnfit("ahead(100)", () -> x.ahead(100));
        HoseDynasty late = of("fire 0 1;fire 0 61;");
        for (int k = 0; k < 3; k++) {
            work(late, "again 30[hour;hour;hour;hour;hour;hour;];");
        }
        due("the last hour", late.told(3), 500);
        work(late, "hope 0;");
        due("beyond 500 fires burn again", late.ahead(8), 1);
        due("beyond 500 fires burn again", late.ahead(9), 0);
    }

    static void promise19_20_chains() {
        HoseDynasty x = of("piece 9 0 1 0;piece 9 2 1 0;piece 30 5 5 0;");
        due("the longest is not that of most pieces", x.chain(0), 30);
        due("one piece", x.chain(1), 1);
        due("as told ahead of turned", x.chained(0), 4);
        due("no second one", x.chained(1), -1);
        HoseDynasty y = of("piece 9 0 1 0;piece 9 2 1 0;piece 18 5 5 0;", "lay 2;");
        due("whatever lies there", y.chain(0), 18);
        due("the first of as long ones", y.chain(1), 2);
        due("as told", y.chained(0), 0);
        due("turned", y.chained(1), 3);
        HoseDynasty z = of("piece 3 0 1 0;piece 3 1 0 0;piece 3 0 0 9;");
        int[] first = {0, 2, 4, -1};
        for (int k = 0; k < first.length; k++) {
            due("chained(" + k + ")", z.chained(k), first[k]);
        }
        HoseDynasty turned = of("piece 3 0 1 0;piece 3 0 2 0;collar 3 4;");
        due("the first one must be turned", turned.chained(0), 1);
        due("the second one as told", turned.chained(1), 2);
        HoseDynasty middle = of("piece 3 0 1 0;piece 3 5 0 0;piece 3 1 6 0;");
        int[] ways = {2, 0, 4, -1};
        for (int k = 0; k < ways.length; k++) {
            due("the first piece in the middle: chained(" + k + ")", middle.chained(k), ways[k]);
        }
        due("one of length 1", of("piece 1 0 0 0;").chain(1), 1);
        throwsUnfit("chain(2)", () -> x.chain(2));
        throwsUnfit("chain(-1)", () -> x.chain(-1));
        throwsUnfit("chained(-1)", () -> x.chained(-1));
    }

    static void promise21_22_shorts() {
        HoseDynasty x = of("piece 10 0 0 9;piece 10 0 0 1;piece 10 0 0 2;fire 20 58;fire 20 57;fire 0 60;fire 30 60;");
        due("too little is left", x.brief(0), -1);
        due("none of none", x.briefly(0, 0), -1);
        due("two", x.brief(1), 2);
        due("the first of as few", x.briefly(1, 0), 2);
        due("the second", x.briefly(1, 1), 4);
        due("no third", x.briefly(1, 2), -1);
        due("the empty row", x.brief(2), 0);
        due("not so much", x.brief(3), -1);
        work(x, "hope 99;bend 1 9;burst 2;");
        due("by bends and bursts as now", x.briefly(3, 0), 0);
        due("all three", x.brief(3), 3);
        due("bends as now", x.brief(1), 2);
        work(x, "hope 66;");
        due("by the hope as now", x.brief(1), -1);
        law(x, "flow - turned * 9 + most[0, place - 1] * 9 - burst");
        due("by the law", x.brief(3), 3);
        law(x, "99");
        due("by another law", x.brief(3), 3);
        due("by another law", x.brief(1), 2);
        law(x, "0");
        due("by a third law", x.brief(1), -1);
        x.image();
        work(x, "hope 60;");
        due("behind work", x.brief(2), 0);
        due("kept", x.brief(2), 0);
        x.undo();
        x.undo();
        due("undone", x.brief(2), 0);
        work(x, "hope 1;");
        due("behind work", x.brief(2), -1);
        x.restore();
        due("restored", x.brief(2), 0);
        work(x, "hope 1;");
        due("behind work", x.brief(2), -1);
        x.undo();
        due("undone", x.brief(2), 0);
        throwsMissing("brief(4)", () -> x.brief(4));
        throwsMissing("brief(-1)", () -> x.brief(-1));
        throwsMissing("briefly(4, -1)", () -> x.briefly(4, -1));
        throwsUnfit("briefly(0, -1)", () -> x.briefly(0, -1));
        HoseDynasty turned = of("piece 10 0 1 0;piece 10 0 1 0;fire 20 60;");
        law(turned, "flow - turned * (1 - place) * 9");
        due("as told, then turned", turned.brief(0), 2);
        due("as told", turned.briefly(0, 0), 0);
        due("turned", turned.briefly(0, 1), 3);
    }

    static void promise23_joiners() {
        HoseDynasty x = of("piece 5 0 0 0;piece 7 2 2 0;piece 9 4 4 0;");
        due("the longest then", x.joiner(0), 16);
        due("the threads", x.joiner(1), 24);
        due("nothing stays changed", x.fits(2, 4), false);
        due("nothing stays changed", x.chain(0), 9);
        HoseDynasty y = of("piece 5 0 0 0;collar 0 1;collar 0 2;");
        due("none does more", y.joiner(0), 5);
        due("the first that do not fit", y.joiner(1), 3);
        throwsUnfit("joiner(2)", () -> x.joiner(2));
        throwsUnfit("joiner(-1)", () -> x.joiner(-1));
    }

    static void promise24_25_leaking() {
        HoseDynasty x = of("piece 1 0 0 0;piece 1 0 0 0;piece 1 0 0 0;hope 20;", "lay 0;lay 1;lay 2;");
        due("without lines all are right", x.leaks(0), 90);
        due("the first of all", x.leaks(1), 1);
        book(x, "2 15;");
        due("one of each place", x.leaks(0), 3);
        due("the first", x.leaks(1), 5);
        due("look: by place 0 or 1", x.look(0), 0);
        due("two at the worst", x.look(1), 2);
        book(x, "2 15;0 20;");
        due("not the first", x.leaks(0), 2);
        due("place 1 by 5", x.leaks(1), 105);
        due("look", x.look(0), 1);
        due("look", x.look(1), 1);
        book(x, "2 0;");
        due("0 at least", x.leaks(0), 33);
        due("0 at least", x.leaks(1), 20);
        book(x, "2 20;");
        due("none", x.leaks(0), 0);
        due("none", x.leaks(1), -1);
        due("look, none are left", x.look(1), 0);
        book(x, "3 1;");
        due("a place that is not of the row", x.leaks(0), 0);
        book(x, "0 19;1 19;2 19;");
        due("all lines are right", x.leaks(1), 1);
        due("all are in lines", x.look(0), -1);
        due("all are in lines", x.look(1), -1);
        book(x, "");
        due("at the worst 60 at place 0, 30 at 1, 33 at 2", x.look(0), 1);
        due("at the worst", x.look(1), 30);
        work(x, "lift;");
        book(x, "2 20;");
        due("a place that was of the row", x.leaks(0), 0);
        work(x, "lift;lift;");
        due("an empty row", x.leaks(0), 0);
        due("an empty row", x.look(0), -1);
        throwsUnfit("leaks(2)", () -> x.leaks(2));
        throwsUnfit("leaks(-1)", () -> x.leaks(-1));
        throwsUnfit("look(2)", () -> x.look(2));
        throwsUnfit("look(-1)", () -> x.look(-1));
    }

    static void promise26_wedding() {
        due("a triangle", of("piece 1 0 0 0;piece 1 0 0 0;piece 1 0 0 0;").wed(), 1);
        due("three pairs", of("piece 1 0 0 0;piece 1 0 0 0;piece 1 0 0 0;".repeat(2)).wed(), 3);
        due("heads do not fit heads", of("piece 1 0 1 0;piece 1 0 2 0;").wed(), 0);
        due("the foot of the latter", of("piece 1 5 1 0;piece 1 0 5 0;").wed(), 1);
        due("by a collar", of("piece 1 5 1 0;piece 1 0 6 0;collar 6 5;").wed(), 1);
        due("none to itself", of("piece 1 1 1 0;piece 1 2 2 0;").wed(), 0);
        due("a star", of("piece 1 0 1 0;piece 1 1 2 0;piece 1 1 3 0;piece 1 1 4 0;").wed(), 1);
        due("a path, not the greedy way", of("piece 1 2 3 0;piece 1 1 2 0;piece 1 3 4 0;piece 1 4 5 0;").wed(), 2);
        due("as told, whatever is turned", of("piece 1 0 1 0;piece 1 0 2 0;", "turn 0;").wed(), 0);
    }

    static void promise27_sureness() {
        HoseDynasty x = of("piece 1 0 0 0;piece 1 0 0 0;fire 2 55;fire 2 60;fire 2 50;fire 3 1;", "lay 0;lay 1;");
        due("no more than one burst", x.sure(0, 8, 0), 3);
        due("no more than one burst", x.sure(0, 8, 1), 4);
        due("none by 3 of 16", x.sure(1, 3, 0), 169);
        due("none by 3 of 16", x.sure(1, 3, 1), 256);
        due("by 6 of 16", x.sure(1, 6, 0), 25);
        due("by 6 of 16", x.sure(1, 6, 1), 64);
        due("for sure", x.sure(2, 5, 0), 1);
        due("for sure", x.sure(2, 5, 1), 1);
        due("never", x.sure(3, 5, 0), 0);
        due("never", x.sure(3, 5, 1), 1);
        due("by 16", x.sure(1, 16, 0), 0);
        due("by 0", x.sure(1, 0, 0), 1);
        due("nothing stays changed", x.told(7), 60);
        throwsMissing("sure(4, 99, 9)", () -> x.sure(4, 99, 9));
        throwsMissing("sure(-1, 0, 0)", () -> x.sure(-1, 0, 0));
        throwsUnfit("sure(0, 17, 0)", () -> x.sure(0, 17, 0));
        throwsUnfit("sure(0, -1, 0)", () -> x.sure(0, -1, 0));
        throwsUnfit("sure(0, 0, 2)", () -> x.sure(0, 0, 2));
        throwsUnfit("sure(0, 0, -1)", () -> x.sure(0, 0, -1));
        HoseDynasty six = of("piece 1 0 0 0;piece 1 0 0 0;piece 1 0 0 0;piece 1 0 0 0;piece 1 0 0 0;piece 1 0 0 0;fire 6 60;fire 6 99;",
            "lay 0;lay 1;lay 2;lay 3;lay 4;lay 5;");
        work(six, "again 9[burst 0;];hope 99;");
        law(six, "flow - most[0, burst - 9]");
        due("a tenth burst", six.sure(1, 4, 0), 3);
        due("a tenth burst", six.sure(1, 4, 1), 4);
        six.undo();
        law(six, "flow-burst");
        due("13 to the sixth", six.sure(0, 3, 0), 4826809);
        due("16 to the sixth", six.sure(0, 3, 1), 16777216);
    }

    static void promise28_streets() {
        HoseDynasty x = of("piece 1 0 0 0;piece 1 0 0 0;hope 50;", "lay 0;lay 1;bend 1 3;");
        due("too dear", x.street(60, 3, 0), 1);
        due("too dear: none, none", x.street(60, 3, 1), 88);
        due("together", x.street(60, 3, 2), 60);
        due("worth it: 0 or 1, and 1", x.street(60, 1, 0), 2);
        due("the first", x.street(60, 1, 1), 1);
        due("both paid", x.street(60, 1, 2), 58);
        due("all the same", x.street(0, 2, 0), 6);
        due("the first", x.street(0, 2, 1), 1);
        due("below 0", x.street(0, 2, 2), -4);
        work(x, "bend 1 1;bend 0 1;");
        due("either has one to take", x.street(60, 1, 0), 4);
        due("the first", x.street(60, 1, 1), 0);
        work(x, "bend 0 0;");
        due("one bend is any", x.street(60, 1, 1), 1);
        work(x, "bend 1 9;");
        due("9 bends may be one more", x.street(60, 1, 0), 2);
        work(x, "bend 1 0;");
        due("the house has none to take", x.street(60, 1, 1), 8);
        due("only the street pays", x.street(60, 1, 2), 59);
        law(x, "flow + bends % 2 * (1 - place * 2)");
        work(x, "bend 0 1;bend 1 1;");
        due("nothing stays changed", x.piece(0, 4), 1);
        due("for free", x.street(60, 0, 0), 1);
        due("none would rest", noRest().street(9, 0, 0), 0);
        due("none would rest", noRest().street(9, 0, 1), -1);
        due("none would rest", noRest().street(9, 0, 2), 0);
        throwsUnfit("street(-1, 0, 0)", () -> x.street(-1, 0, 0));
        throwsUnfit("street(100, 0, 0)", () -> x.street(100, 0, 0));
        throwsUnfit("street(0, -1, 0)", () -> x.street(0, -1, 0));
        throwsUnfit("street(0, 10, 0)", () -> x.street(0, 10, 0));
        throwsUnfit("street(0, 0, -1)", () -> x.street(0, 0, -1));
        throwsUnfit("street(0, 0, 3)", () -> x.street(0, 0, 3));
    }

    /** Bends 2, 3, 1 or 2 leave 20, 10, 10, 20: the one wants them alike, the other unlike. */
    private static HoseDynasty noRest() {
        HoseDynasty x = of("piece 1 0 0 0;", "lay 0;bend 0 2;");
        law(x, "20 - bends % 2 * 10");
        return x;
    }

    static void promise29_sharing() {
        HoseDynasty x = of("fire 0 40;fire 0 70;fire 0 99;");
        due("all", x.share(2, 7, 209), 99);
        due("one less", x.share(2, 7, 208), 98);
        due("the least gets its own", x.share(0, 7, 150), 40);
        due("the others the bound", x.share(1, 7, 150), 55);
        due("no more than n: one is left over", x.share(1, 7, 151), 55);
        due("two of them", x.share(2, 5, 100), 60);
        due("none of them", x.share(1, 5, 100), 0);
        due("none at all", x.share(1, 0, 100), 0);
        due("nothing", x.share(1, 7, 0), 0);
        due("less than one each", x.share(1, 7, 2), 0);
        due("999", x.share(0, 1, 999), 40);
        throwsMissing("share(3, 99, -1)", () -> x.share(3, 99, -1));
        throwsMissing("share(-1, 0, 0)", () -> x.share(-1, 0, 0));
        throwsUnfit("share(0, 8, 0)", () -> x.share(0, 8, 0));
        throwsUnfit("share(0, 9, 0)", () -> x.share(0, 9, 0));
        throwsUnfit("share(0, -1, 0)", () -> x.share(0, -1, 0));
        throwsUnfit("share(0, 1, -1)", () -> x.share(0, 1, -1));
        throwsUnfit("share(0, 1, 1000)", () -> x.share(0, 1, 1000));
    }

    static void promise31_32_worstAndNeeded() {
        HoseDynasty x = of("piece 5 0 0 4;piece 5 0 0 7;piece 5 0 0 7;fire 15 30;fire 16 1;fire 0 99;", "lay 0;lay 1;lay 2;");
        due("the first of alike ones", x.worst(0), 1);
        due("how much", x.worst(1), 7);
        due("needed", x.needed(0), 48);
        due("too far", x.needed(1), -1);
        due("too much", x.needed(2), -1);
        law(x, "flow + 5 + place");
        due("more comes out: least of that", x.worst(0), 0);
        due("below 0", x.worst(1), -5);
        due("needed by the law", x.needed(2), 81);
        law(x, "hope");
        due("the law's hope, too", x.needed(0), 30);
        due("nothing stays changed", x.told(11), 60);
        law(x, "50");
        due("none at all", x.needed(0), 0);
        work(x, "lift;lift;lift;");
        due("an empty row", x.worst(0), -1);
        due("an empty row", x.worst(1), 0);
        due("an empty row needs N", x.needed(2), 99);
        throwsUnfit("worst(2)", () -> x.worst(2));
        throwsUnfit("worst(-1)", () -> x.worst(-1));
        throwsMissing("needed(3)", () -> x.needed(3));
        throwsMissing("needed(-1)", () -> x.needed(-1));
    }

    private static int drawnSeed;

    private static int drawn(int by) {
        drawnSeed = drawnSeed * 1103515245 + 12345;
        return (drawnSeed >> 16 & 0x7fff) % by;
    }

    static void promise34_yearsBySeeds() {
        HoseDynasty x = of("piece 5 0 0 0;fire 5 55;fire 0 60;");
        for (int seed = -3; seed < 40; seed++) {
            drawnSeed = seed * 99991;
            int first = drawn(1) * 4 + drawn(4);
            boolean lifted = drawn(16) < 8;
            boolean lies = first == 0 && !lifted;
            due("row of seed " + seed, x.year(seed * 99991, 1, 8, 1), lies ? 1 : 0);
            due("bursts of seed " + seed, x.year(seed * 99991, 1, 8, 3), first == 2 ? 1 : 0);
            due("put out by seed " + seed, x.year(seed * 99991, 1, 8, 0), lies ? 2 : 1);
            due("arrives by seed " + seed, x.year(seed * 99991, 1, 8, 2), 60);
        }
        due("never lifted by 0", x.year(7, 96, 0, 1), 1);
        due("lifted at once, always", x.year(7, 96, 16, 1), 0);
        due("nothing stays changed", x.told(3), 0);
        HoseDynasty none = of("fire 0 60;");
        due("without pieces hours go by: put out once", none.year(1, 96, 16, 0), 1);
        due("by how many it is out", none.span(1, 20, 96, 16, 2, 0), 20);
        work(none, "hour;hope 0;");
        due("it is out already", none.year(1, 9, 16, 0), 0);
        due("it burns again", none.span(1, 20, 9, 16, 2, 0), 0);
        due("not yet", none.span(1, 20, 8, 16, 2, 0), 20);
        throwsUnfit("year(0, 0, 0, 0)", () -> x.year(0, 0, 0, 0));
        throwsUnfit("year(0, 97, 0, 0)", () -> x.year(0, 97, 0, 0));
        throwsUnfit("year(0, 1, -1, 0)", () -> x.year(0, 1, -1, 0));
        throwsUnfit("year(0, 1, 17, 0)", () -> x.year(0, 1, 17, 0));
        throwsUnfit("year(0, 1, 0, 4)", () -> x.year(0, 1, 0, 4));
        throwsUnfit("year(0, 1, 0, -1)", () -> x.year(0, 1, 0, -1));
    }

    static void promise35_spans() {
        HoseDynasty x = of("piece 5 0 0 0;piece 4 0 1 2;piece 4 1 0 9;fire 5 55;fire 0 60;");
        for (int hours = 1; hours < 40; hours += 7) {
            int fewest = 9;
            int most = 0;
            for (int seed = Integer.MAX_VALUE - 3; seed != Integer.MIN_VALUE + 5; seed++) {
                int many = Integer.bitCount(x.year(seed, hours, 4, 1));
                fewest = Math.min(fewest, many);
                most = Math.max(most, many);
            }
            due("the fewest", x.span(Integer.MAX_VALUE - 3, 9, hours, 4, 0, 0), fewest);
            due("the most", x.span(Integer.MAX_VALUE - 3, 9, hours, 4, 1, 1), most);
        }
        due("by how many fire 1 is out", x.span(5, 20, 1, 16, 2, 1), 20);
        due("one seed, never lifted", x.span(5, 1, 96, 0, 0, 1), x.span(5, 1, 96, 0, 1, 1));
        due("the most, always lifted", x.span(5, 20, 96, 16, 1, 1), 0);
        HoseDynasty from = of("piece 5 0 0 1;piece 4 1 1 2;fire 0 1;", "lay 0;bend 0 3;turn 1;");
        due("a year goes on from the row that is", from.span(5, 20, 1, 0, 0, 0), 1);
        for (int seed = 0; seed < 9; seed++) {
            drawnSeed = seed;
            boolean bursts = drawn(2) == 0 & drawn(4) == 2;
            due("by bends that are, seed " + seed, from.year(seed, 1, 0, 2), bursts ? 48 : 53);
        }
        throwsUnfit("span: no such fire", () -> x.span(0, 1, 1, 0, 0, 2));
        throwsUnfit("span: no such fire", () -> x.span(0, 1, 1, 0, 1, -1));
        throwsUnfit("span: many 0", () -> x.span(0, 0, 1, 0, 0, 0));
        throwsUnfit("span: many 21", () -> x.span(0, 21, 1, 0, 0, 0));
        throwsUnfit("span: hours 0", () -> x.span(0, 1, 0, 0, 0, 0));
        throwsUnfit("span: hours 97", () -> x.span(0, 1, 97, 0, 0, 0));
        throwsUnfit("span: q 17", () -> x.span(0, 1, 1, 17, 0, 0));
        throwsUnfit("span: q -1", () -> x.span(0, 1, 1, -1, 0, 0));
        throwsUnfit("span: what 3", () -> x.span(0, 1, 1, 0, 3, 0));
        throwsUnfit("span: what -1", () -> x.span(0, 1, 1, 0, -1, 0));
    }

    static void promise36_37_images() {
        HoseDynasty x = of(HOUSE, "lay 0;hour;");
        due("image", x.image(), 1);
        work(x, "lay 1;bend 0 5;burst 2;turn 3;hope 9;hour;lift;lift;lift;");
        due("refused", x.told(10), 1);
        due("image", x.image(), 2);
        due("image", x.image(), 3);
        due("there are 3", x.image(), -1);
        law(x, "7");
        book(x, "0 7;");
        due("restore", x.restore(), 2);
        due("refused behind restore", x.told(10), 0);
        due("works", x.count(2), 2);
        due("undo", x.undo(), 1);
        due("undo", x.undo(), 0);
        due("restore", x.restore(), 1);
        due("works are back", x.count(2), 2);
        due("the row is empty", x.told(4), 0);
        due("hope", x.told(11), 9);
        due("restore", x.restore(), 0);
        due("works", x.count(2), 1);
        due("the row", x.told(5), 1);
        due("the hour", x.told(3), 1);
        due("bends", x.piece(0, 4), 0);
        due("bursts", x.piece(2, 5), 0);
        due("turned", x.piece(3, 6), 0);
        due("hope", x.told(11), 60);
        due("no image keeps the law", x.told(7), 7);
        due("no image keeps the book", x.told(9), 1);
        due("undo", x.undo(), 0);
        due("the row", x.told(4), 0);
        work(x, "lay 2;");
        work(x, "lay 3;");
        x.image();
        x.undo();
        x.undo();
        work(x, "lay 1;");
        work(x, "lift;lift;");
        due("restore", x.restore(), 0);
        due("the row", x.told(5), 4 + 8);
        due("undo goes back to the image's nights", x.undo(), 1);
        due("the row", x.told(5), 4);
        due("undo", x.undo(), 0);
        due("the row", x.told(5), 0);
        work(x, "lift;");
        due("none", x.restore(), -1);
        due("nothing was done by it", x.told(10), 1);
    }

    static void promise38_39_counts() {
        HoseDynasty x = of(HOUSE);
        due("status(0)", x.status(0), 0);
        due("status(1)", x.status(1), 0);
        x.image();
        throwsMissing("piece(9, 99)", () -> x.piece(9, 99));
        throwsMissing("brief(9)", () -> x.brief(9));
        throwsUnfit("span of no fire", () -> x.span(0, 1, 1, 0, 0, 9));
        throwsUnfit("house(99)", () -> x.house(99));
        throwsUnfit("told(99)", () -> x.told(99));
        x.restore();
        house(x, "");
        due("no image, no house keeps it: 0", x.status(0), 2);
        due("no image, no house keeps it: 1", x.status(1), 3);
        due("status(2)", x.status(2), -1);
        due("status(-1)", x.status(-1), -1);
        feed(x, "hour;");
        due("bytes", x.count(1), 20);
        x.work(5);
        x.image();
        due("images", x.count(0), 1);
        due("bytes", x.count(1), 0);
        due("works", x.count(2), 1);
        due("count(3)", x.count(3), -1);
        due("count(-1)", x.count(-1), -1);
        due("neither is refused", x.status(1), 3);
    }

    public static void main(String[] args) {
        Bench.run(PromiseTest.class);
    }
}
