/** The edges that "Terms" names for the texts, HOUSE, LAW, WORK, BOOK, and for their FAULTS: a test for each. */
public final class TextEdgesTest {
    private static final Bench.Kind HOUSE = Bench.Kind.HOUSE;
    private static final Bench.Kind LAW = Bench.Kind.LAW;
    private static final Bench.Kind WORK = Bench.Kind.WORK;
    private static final Bench.Kind BOOK = Bench.Kind.BOOK;

    private static void good(Bench.Kind kind, String text) {
        Bench.good(TextEdgesTest::twoPieces, kind, text);
    }

    private static void bad(Bench.Kind kind, String text, int answer, int at) {
        Bench.bad(TextEdgesTest::twoPieces, kind, text, answer, at);
    }

    private static void range(Bench.Kind kind, String ahead, int low, int high, String behind) {
        Bench.range(TextEdgesTest::twoPieces, kind, ahead, low, high, behind);
    }

    private static void due(String what, long got, long want) {
        Bench.due(what, got, want);
    }

    private static HoseDynasty twoPieces() {
        return Bench.of(Bench.plain(2));
    }

    /** What is LEFT by a law for flow 0 (and LENGTH 1). */
    private static void leaves(String law, int want) {
        HoseDynasty x = new HoseDynasty();
        due("law " + law, Bench.law(x, law), 1);
        due("left by " + law, x.would(0, 0, 1, 0, 0, 0, 0, 0, 0), want);
    }

    // HOUSE

    static void terms_house_upTo600Bytes() {
        HoseDynasty x = new HoseDynasty();
        due("a clause, then blanks to 600", Bench.house(x, "hope 7;" + " ".repeat(593)), 0);
        due("hope", x.told(11), 7);
        due("a clause that ends at 600", Bench.house(x, " ".repeat(593) + "hope 8;"), 0);
        due("hope", x.told(11), 8);
        bad(HOUSE, " ".repeat(594) + "hope 9", Bench.FAULT_1, 600);
        bad(HOUSE, " ".repeat(599) + "?", Bench.FAULT_1, 599);
    }

    static void terms_house_noClauses() {
        good(HOUSE, "");
        good(HOUSE, " ");
        good(HOUSE, " ".repeat(600));
    }

    static void terms_house_atMost60Clauses() {
        good(HOUSE, "hope1;".repeat(59));
        good(HOUSE, "hope1;".repeat(60));
        good(HOUSE, "hope1;".repeat(60) + "   ");
        bad(HOUSE, "hope1;".repeat(61), Bench.FAULT_3, 360);
        bad(HOUSE, "hope1;".repeat(60) + "  hope1;", Bench.FAULT_3, 362);
        bad(HOUSE, "hope1;".repeat(60) + "fire", Bench.FAULT_3, 360);
        bad(HOUSE, "hope1;".repeat(60) + "collar 1 1;", Bench.FAULT_3, 360);
    }

    static void terms_house_60ClausesOfAllKinds() {
        String text = "piece1 0 0 0;".repeat(6) + "collar0 1;".repeat(4) + "fire0 1;".repeat(5);
        good(HOUSE, text + "hope1;".repeat(45));
        bad(HOUSE, text + "hope1;".repeat(46), Bench.FAULT_3, text.length() + 45 * 6);
    }

    static void terms_house_piecesNumberedFrom0To5() {
        HoseDynasty x = new HoseDynasty();
        due("six", Bench.house(x, "piece 1 0 0 0;piece 2 0 0 0;piece 3 0 0 0;piece 4 0 0 0;piece 5 0 0 0;piece 6 0 0 0;"), 6);
        for (int p = 0; p < 6; p++) {
            due("length of piece " + p, x.piece(p, 0), p + 1);
        }
    }

    static void terms_house_a7thPiece() {
        good(HOUSE, Bench.plain(6));
        bad(HOUSE, Bench.plain(7), Bench.FAULT_3, 84);
        bad(HOUSE, Bench.plain(6) + "   piece", Bench.FAULT_3, 87);
        bad(HOUSE, Bench.plain(6) + "piece 99 99 99 99", Bench.FAULT_3, 84);
        good(HOUSE, Bench.plain(6) + "collar 0 1;fire 0 1;hope 1;");
    }

    static void terms_house_lengthOfAPiece() {
        range(HOUSE, "piece ", 1, 30, " 0 0 0;");
    }

    static void terms_house_threadAtTheHead() {
        range(HOUSE, "piece 1 ", 0, 9, " 0 0;");
    }

    static void terms_house_threadAtTheFoot() {
        range(HOUSE, "piece 1 0 ", 0, 9, " 0;");
    }

    static void terms_house_lossOfAPiece() {
        range(HOUSE, "piece 1 0 0 ", 0, 9, ";");
    }

    static void terms_house_a5thCollar() {
        good(HOUSE, "collar 0 1;".repeat(4));
        bad(HOUSE, "collar 0 1;".repeat(5), Bench.FAULT_3, 44);
        bad(HOUSE, "collar 0 1;".repeat(4) + " collar", Bench.FAULT_3, 45);
        bad(HOUSE, "collar 0 1;".repeat(4) + "collar 1 1;", Bench.FAULT_3, 44);
        good(HOUSE, "collar 0 1;".repeat(4) + "piece 1 0 0 0;fire 0 1;hope 1;");
    }

    static void terms_house_threadsOfACollar() {
        range(HOUSE, "collar ", 0, 9, " 5;");
        range(HOUSE, "collar 5 ", 0, 9, ";");
    }

    static void terms_house_threadsOfACollarAreUnlike() {
        for (int a = 0; a <= 9; a++) {
            bad(HOUSE, "collar " + a + " " + a + ";", Bench.FAULT_2, 9);
            good(HOUSE, "collar " + a + " " + (a == 9 ? 8 : a + 1) + ";");
        }
        bad(HOUSE, "collar 3 0003;", Bench.FAULT_2, 9);
        bad(HOUSE, "collar 3    3?", Bench.FAULT_2, 12);
    }

    static void terms_house_a6thFire() {
        good(HOUSE, "fire 0 1;".repeat(5));
        bad(HOUSE, "fire 0 1;".repeat(6), Bench.FAULT_3, 45);
        bad(HOUSE, "fire 0 1;".repeat(5) + "  fire", Bench.FAULT_3, 47);
        bad(HOUSE, "fire 0 1;".repeat(5) + "fire 201 0;", Bench.FAULT_3, 45);
        good(HOUSE, "fire 0 1;".repeat(5) + "piece 1 0 0 0;collar 0 1;hope 1;");
    }

    static void terms_house_howFarAFireIs() {
        range(HOUSE, "fire ", 0, 200, " 1;");
    }

    static void terms_house_whatAFireNeeds() {
        range(HOUSE, "fire 0 ", 1, 99, ";");
    }

    static void terms_house_hope() {
        range(HOUSE, "hope ", 0, 99, ";");
    }

    static void terms_house_hopeIs60Without() {
        HoseDynasty x = Bench.of("hope 5;");
        due("hope told", x.told(11), 5);
        Bench.house(x, "fire 0 1;");
        due("hope without", x.told(11), 60);
    }

    static void terms_house_theLastHopeCounts() {
        due("the last of three", Bench.of("hope 99;hope 0;hope 7;").told(11), 7);
        due("0 is the last", Bench.of("hope 99;hope 0;").told(11), 0);
        due("99 is the last", Bench.of("hope 0;fire 0 1;hope 99;fire 0 1;").told(11), 99);
    }

    static void terms_house_eachClauseHasItsSign() {
        bad(HOUSE, "hope 1", Bench.FAULT_1, 6);
        bad(HOUSE, "hope 1,", Bench.FAULT_1, 6);
        bad(HOUSE, "piece 1 0 0 0", Bench.FAULT_1, 13);
        bad(HOUSE, "piece 1 0 0;", Bench.FAULT_1, 11);
        bad(HOUSE, "piece 1 0 0 0 0;", Bench.FAULT_1, 14);
        bad(HOUSE, "collar 0;", Bench.FAULT_1, 8);
        bad(HOUSE, "collar 0 1 2;", Bench.FAULT_1, 11);
        bad(HOUSE, "fire 0;", Bench.FAULT_1, 6);
        bad(HOUSE, "fire 0 1 2;", Bench.FAULT_1, 9);
        bad(HOUSE, ";", Bench.FAULT_1, 0);
        bad(HOUSE, "hope 1;;", Bench.FAULT_1, 7);
        bad(HOUSE, "turn 0;", Bench.FAULT_1, 0);
    }

    // LAW

    static void terms_law_upTo150Bytes() {
        HoseDynasty x = new HoseDynasty();
        due("150 digits", Bench.law(x, "0".repeat(148) + "42"), 1);
        due("all of them count", x.would(0, 0, 1, 0, 0, 0, 0, 0, 0), 42);
        due("75 numbers", Bench.law(x, "1+".repeat(74) + "11"), 1);
        due("all of them count", x.would(0, 0, 1, 0, 0, 0, 0, 0, 0), 85);
        bad(LAW, "1+".repeat(75), Bench.FAULT_1, 150);
        good(LAW, "flow" + " ".repeat(146));
    }

    static void terms_law_isNotEmpty() {
        bad(LAW, "", Bench.FAULT_1, 0);
        bad(LAW, " ", Bench.FAULT_1, 1);
        bad(LAW, " ".repeat(150), Bench.FAULT_1, 150);
        bad(LAW, "()", Bench.FAULT_1, 1);
    }

    static void terms_law_nothingMoreAtTheEnd() {
        good(LAW, "flow  ");
        bad(LAW, "flow;", Bench.FAULT_1, 4);
        bad(LAW, "flow flow", Bench.FAULT_1, 5);
        bad(LAW, "1 2", Bench.FAULT_1, 2);
        bad(LAW, "(1))", Bench.FAULT_1, 3);
        bad(LAW, "1]", Bench.FAULT_1, 1);
        bad(LAW, "1,", Bench.FAULT_1, 1);
    }

    static void terms_law_withoutOne() {
        HoseDynasty x = new HoseDynasty();
        due("flow", x.would(99, 0, 30, 0, 0, 5, 1, 0, 5), 99);
        due("loss", x.would(99, 9, 1, 0, 0, 0, 0, 0, 0), 90);
        due("bends twice", x.would(99, 0, 1, 9, 0, 0, 0, 0, 0), 81);
        due("burst five times", x.would(99, 0, 1, 0, 9, 0, 0, 0, 0), 54);
        due("all of them", x.would(99, 9, 1, 9, 9, 0, 0, 0, 0), 27);
        due("just nothing", x.would(72, 9, 1, 9, 9, 0, 0, 0, 0), 0);
        due("0 at least", x.would(71, 9, 1, 9, 9, 0, 0, 0, 0), 0);
    }

    static void terms_law_leftIs0AtLeast() {
        leaves("1", 1);
        leaves("0", 0);
        leaves("0-1", 0);
        leaves("0-512*512*128*64", 0);
    }

    static void terms_law_leftIs99AtMost() {
        leaves("98", 98);
        leaves("99", 99);
        leaves("100", 99);
        leaves("512*512*128*64-1", 99);
    }

    static void terms_law_numbers() {
        range(LAW, "", 0, 999, "");
        range(LAW, "flow + ", 0, 999, " * 2");
        leaves("999-901", 98);
    }

    static void terms_law_namesAndNoOthers() {
        for (String name : new String[] {"flow", "loss", "length", "bends", "burst", "place", "turned", "hope", "piece"}) {
            good(LAW, name);
            bad(LAW, name + "s", Bench.FAULT_1, 0);
            bad(LAW, "1+" + name.substring(1), Bench.FAULT_1, 2);
            bad(LAW, name.substring(0, name.length() - 1), Bench.FAULT_1, 0);
        }
        bad(LAW, "fire", Bench.FAULT_1, 0);
        bad(LAW, "collar", Bench.FAULT_1, 0);
        bad(LAW, "hour", Bench.FAULT_1, 0);
        bad(LAW, "FLOW", Bench.FAULT_1, 0);
    }

    static void terms_law_sumsWrap() {
        leaves("512*512*128*64-1+1", 0);
        leaves("(0-512*512*128*64)-1", 99);
    }

    static void terms_law_productsWrap() {
        leaves("512*512*128*64", 0);
        leaves("512*512*128*128", 0);
        leaves("512*512*128*128+7", 7);
        leaves("512*512*128*128*999*999+8", 8);
    }

    static void terms_law_divisionCuts() {
        leaves("7/2", 3);
        leaves("8/9", 0);
        leaves("(0-7)/2+50", 47);
        leaves("7/(0-2)+50", 47);
        leaves("(0-7)/(0-2)+50", 53);
        leaves("(0-1)/2+50", 50);
    }

    static void terms_law_whatIsLeftOfADivision() {
        leaves("7%4", 3);
        leaves("8%4", 0);
        leaves("(0-7)%4+50", 47);
        leaves("7%(0-4)+50", 53);
        leaves("(0-7)%(0-4)+50", 47);
        leaves("999%1+50", 50);
    }

    static void terms_law_by0BothAre0() {
        leaves("50+9/0", 50);
        leaves("50+9%0", 50);
        leaves("50+0/0", 50);
        leaves("50+0%0", 50);
        leaves("50+(0-9)/flow", 50);
        leaves("50+(0-9)%flow", 50);
        leaves("50+9/(3-3)*7", 50);
    }

    static void terms_law_theLeastNumberByMinus1() {
        leaves("(512*512*128*64)/(0-1)", 0);
        leaves("(512*512*128*64)/(0-1)-1", 99);
        leaves("(512*512*128*64)%(0-1)+50", 50);
    }

    static void terms_law_leastAndMost() {
        leaves("least[3,4]", 3);
        leaves("least[4,3]", 3);
        leaves("least[4,4]", 4);
        leaves("most[3,4]", 4);
        leaves("most[4,3]", 4);
        leaves("most[4,4]", 4);
        leaves("50+least[0-3,2]", 47);
        leaves("50+most[0-3,0-2]", 48);
        leaves("least[512*512*128*64,1]+50", 0);
        leaves("most[512*512*128*64,1]+50", 51);
        bad(LAW, "least[1]", Bench.FAULT_1, 7);
        bad(LAW, "least[1,2,3]", Bench.FAULT_1, 9);
        bad(LAW, "most(1,2)", Bench.FAULT_1, 4);
        bad(LAW, "most[,2]", Bench.FAULT_1, 5);
        bad(LAW, "most[1,]", Bench.FAULT_1, 7);
        bad(LAW, "most", Bench.FAULT_1, 4);
    }

    static void terms_law_signsGoFromTheLeft() {
        leaves("9-3-2", 4);
        leaves("9-3+2", 8);
        leaves("90/9/5", 2);
        leaves("90/9*5", 50);
        leaves("90%7*5", 30);
        leaves("2+3*4", 14);
        leaves("2*3+4", 10);
        leaves("20-6/4", 19);
        leaves("(2+3)*4", 20);
        bad(LAW, "+1", Bench.FAULT_1, 0);
        bad(LAW, "-1", Bench.FAULT_1, 0);
        bad(LAW, "1*-1", Bench.FAULT_1, 2);
        bad(LAW, "1**1", Bench.FAULT_1, 2);
        bad(LAW, "1+", Bench.FAULT_1, 2);
        bad(LAW, "1 % ", Bench.FAULT_1, 4);
    }

    static void terms_law_a7thOpenBracket() {
        good(LAW, "((((((1))))))");
        bad(LAW, "(((((((1)))))))", Bench.FAULT_3, 6);
        bad(LAW, "((((((  (", Bench.FAULT_3, 8);
        bad(LAW, "((((((1+(", Bench.FAULT_3, 8);
    }

    static void terms_law_a7thOpenLeast() {
        good(LAW, "least[1,".repeat(6) + "1" + "]".repeat(6));
        bad(LAW, "least[1,".repeat(7) + "1" + "]".repeat(7), Bench.FAULT_3, 48);
        bad(LAW, "least[".repeat(6) + "least", Bench.FAULT_3, 36);
        bad(LAW, "((((((least", Bench.FAULT_3, 6);
    }

    static void terms_law_a7thOpenMost() {
        good(LAW, "most[".repeat(6) + "1" + ",2]".repeat(6));
        bad(LAW, "most[".repeat(7) + "1" + ",2]".repeat(7), Bench.FAULT_3, 30);
        bad(LAW, "(least[(most[1,(least[1, most", Bench.FAULT_3, 25);
    }

    static void terms_law_whatIsClosedIsOpenNoMore() {
        good(LAW, "((((((1))))))+((((((2))))))*least[1,(((((2)))))]-most[(((((1))))),(((((2)))))]");
        good(LAW, "(((((1)+(1)+least[1,1]+most[1,1]))))");
        bad(LAW, "((((((1)))))+least[1,(((((2)))))]", Bench.FAULT_3, 25);
    }

    static void terms_law_deepestReckoning() {
        leaves("1+2*(1+2*(1+2*(1+2*(1+2*(1+2*(1+2*1-0))))))", 99);
        leaves("1+1*least[99,1+1*least[99,1+1*least[99,1+1*least[99,1+1*least[99,1+1*least[99,1+1*1]]]]]]", 8);
        leaves("90-(1+1*(1+1*(1+1*(1+1*(1+1*(1+1*3))))))", 81);
    }

    // WORK

    static void terms_work_upTo150Bytes() {
        HoseDynasty x = new HoseDynasty();
        due("30 steps", Bench.work(x, "hour;".repeat(30)), 30);
        due("37 brackets and more", Bench.work(x, "again1[];".repeat(16) + "hour; "), 1);
        due("blanks", Bench.work(x, " ".repeat(150)), 0);
        bad(WORK, " ".repeat(146) + "hour", Bench.FAULT_1, 150);
    }

    static void terms_work_noSteps() {
        HoseDynasty x = twoPieces();
        due("nothing", Bench.work(x, ""), 0);
        due("it is a WORK", x.count(2), 1);
        due("blanks", Bench.work(x, "  "), 0);
        due("it is a WORK", x.count(2), 2);
    }

    static void terms_work_piecesThatThereAre() {
        for (int many = 1; many <= 6; many++) {
            String house = Bench.plain(many);
            for (String word : new String[] {"turn ", "lay ", "burst ", "patch "}) {
                Bench.range(() -> Bench.of(house), WORK, word, 0, many - 1, ";");
            }
            Bench.range(() -> Bench.of(house), WORK, "bend ", 0, many - 1, " 1;");
        }
    }

    static void terms_work_noPieces() {
        for (String word : new String[] {"turn ", "lay ", "burst ", "patch ", "bend "}) {
            Bench.bad(HoseDynasty::new, WORK, word + "0;", Bench.FAULT_2, word.length());
        }
        Bench.good(HoseDynasty::new, WORK, "lift;hope 0;hour;again 1[];");
    }

    static void terms_work_bends() {
        range(WORK, "bend 1 ", 0, 9, ";");
    }

    static void terms_work_hope() {
        range(WORK, "hope ", 0, 99, ";");
    }

    static void terms_work_howOftenAgain() {
        range(WORK, "again ", 0, 30, "[hour;];");
        HoseDynasty x = new HoseDynasty();
        due("0 times", Bench.work(x, "again 0[hour;];"), 0);
        due("once", Bench.work(x, "again 1[hour;];"), 1);
        due("30 times", Bench.work(x, "again 30[hour;];"), 30);
        due("0 times 30 times", Bench.work(x, "again 30[again 0[hour;];];"), 0);
        due("30 times 0 times", Bench.work(x, "again 0[again 30[hour;];];"), 0);
        due("what is behind it is done once", Bench.work(x, "again 0[again 30[hour;];hour;];hour;"), 1);
    }

    static void terms_work_emptyAgain() {
        good(WORK, "again 30[];");
        good(WORK, "again 30[  ] ;");
        bad(WORK, "again 30[;];", Bench.FAULT_1, 9);
    }

    static void terms_work_eachStepHasItsForm() {
        bad(WORK, "turn;", Bench.FAULT_1, 4);
        bad(WORK, "lay;", Bench.FAULT_1, 3);
        bad(WORK, "lift 0;", Bench.FAULT_1, 5);
        bad(WORK, "bend 0;", Bench.FAULT_1, 6);
        bad(WORK, "burst;", Bench.FAULT_1, 5);
        bad(WORK, "patch 0 1;", Bench.FAULT_1, 8);
        bad(WORK, "hope;", Bench.FAULT_1, 4);
        bad(WORK, "hour 1;", Bench.FAULT_1, 5);
        bad(WORK, "hour", Bench.FAULT_1, 4);
        bad(WORK, "again[];", Bench.FAULT_1, 5);
        bad(WORK, "again 1;", Bench.FAULT_1, 7);
        bad(WORK, "again 1(hour;);", Bench.FAULT_1, 7);
        bad(WORK, "piece 1 0 0 0;", Bench.FAULT_1, 0);
        bad(WORK, "unturn 0;", Bench.FAULT_1, 0);
        bad(WORK, ";", Bench.FAULT_1, 0);
    }

    static void terms_work_bracketsCloseWhatIsOpen() {
        bad(WORK, "];", Bench.FAULT_1, 0);
        bad(WORK, "hour;]", Bench.FAULT_1, 5);
        bad(WORK, "again 1[hour;];];", Bench.FAULT_1, 15);
        bad(WORK, "again 1[hour;", Bench.FAULT_1, 13);
        bad(WORK, "again 1[", Bench.FAULT_1, 8);
        bad(WORK, "again 1[hour;]", Bench.FAULT_1, 14);
        bad(WORK, "again 1[hour];", Bench.FAULT_1, 12);
        bad(WORK, "again 1[hour;]]", Bench.FAULT_1, 14);
    }

    static void terms_work_a7thOpenAgain() {
        good(WORK, "again 1[".repeat(6) + "];".repeat(6));
        bad(WORK, "again 1[".repeat(7) + "];".repeat(7), Bench.FAULT_3, 48);
        bad(WORK, "again 1[".repeat(6) + " again", Bench.FAULT_3, 49);
        bad(WORK, "again 1[".repeat(6) + "again 99", Bench.FAULT_3, 48);
        good(WORK, "again1[".repeat(6) + "];again1[];" + "];".repeat(5));
        bad(WORK, "again1[".repeat(6) + "];again1[again1[", Bench.FAULT_3, 51);
        good(WORK, ("again1[".repeat(6) + "];".repeat(6)).repeat(2));
    }

    static void terms_work_nothingStaysOpen() {
        HoseDynasty x = twoPieces();
        due("ends within two agains", Bench.work(x, "again 1[again 2[hour;"), Bench.FAULT_1);
        due("the next is read anew", Bench.work(x, "hour;"), 1);
        due("nothing to close", Bench.work(x, "hour;];"), Bench.FAULT_1);
        due("at", x.fault(), 5);
        due("200 within two agains", Bench.work(x, "again 30[again 30[hour;];];"), 192);
        due("nothing to close", Bench.work(x, "];"), Bench.FAULT_1);
        due("six may be open", Bench.work(x, "again 1[".repeat(6) + "hour;" + "];".repeat(6)), 1);
    }

    // BOOK

    static void terms_book_upTo60Bytes() {
        HoseDynasty x = new HoseDynasty();
        due("a line that ends at 60", Bench.book(x, " ".repeat(56) + "5 7;"), 1);
        due("a line, then blanks", Bench.book(x, "5 7;" + " ".repeat(56)), 1);
        due("blanks", Bench.book(x, " ".repeat(60)), 0);
        bad(BOOK, " ".repeat(57) + "5 7", Bench.FAULT_1, 60);
    }

    static void terms_book_noLines() {
        HoseDynasty x = new HoseDynasty();
        due("one", Bench.book(x, "0 0;"), 1);
        due("none", Bench.book(x, ""), 0);
        due("none is told", x.told(9), 0);
    }

    static void terms_book_6LinesAtMost() {
        HoseDynasty x = new HoseDynasty();
        due("six", Bench.book(x, "5 1;4 1;3 1;2 1;1 1;0 1;"), 6);
        due("six and blanks", Bench.book(x, "5 1;4 1;3 1;2 1;1 1;0 1;  "), 6);
    }

    /** Every seventh K is none such or there twice: FAULT 2 at the same byte as FAULT 3, and the lesser of both. */
    static void terms_book_a7thLine() {
        String six = "0 1;1 1;2 1;3 1;4 1;5 1;";
        for (int k = 0; k <= 6; k++) {
            bad(BOOK, six + " " + k + " 1;", Bench.FAULT_2, 25);
        }
        bad(BOOK, six + ";", Bench.FAULT_1, 24);
        bad(BOOK, six + "x", Bench.FAULT_1, 24);
    }

    static void terms_book_places() {
        range(BOOK, "", 0, 5, " 1;");
    }

    static void terms_book_whatWasLeft() {
        range(BOOK, "0 ", 0, 99, ";");
    }

    static void terms_book_noPlaceTwice() {
        for (int k = 0; k <= 5; k++) {
            bad(BOOK, k + " 1;" + k + " 2;", Bench.FAULT_2, 4);
            bad(BOOK, k + " 1;" + (5 - k) + " 1;00" + k + " 1;", Bench.FAULT_2, 8);
        }
        bad(BOOK, "0 1;0", Bench.FAULT_2, 4);
        bad(BOOK, "0 0;0 0;", Bench.FAULT_2, 4);
    }

    static void terms_book_placesBeyondTheRowMayStand() {
        due("places of no row", Bench.book(new HoseDynasty(), "5 99;0 0;"), 2);
    }

    static void terms_book_eachLineHasItsForm() {
        bad(BOOK, "0;", Bench.FAULT_1, 1);
        bad(BOOK, "0 1", Bench.FAULT_1, 3);
        bad(BOOK, "0 1 2;", Bench.FAULT_1, 4);
        bad(BOOK, "0 1;;", Bench.FAULT_1, 4);
        bad(BOOK, "0,1;", Bench.FAULT_1, 1);
        bad(BOOK, "place 1;", Bench.FAULT_1, 0);
    }

    // what all texts share

    static void terms_numbers_asManyDigitsAsStandThere() {
        due("zeros ahead", Bench.of("hope " + "0".repeat(500) + "42;").told(11), 42);
        bad(HOUSE, "hope 1" + "0".repeat(590) + ";", Bench.FAULT_2, 5);
        bad(HOUSE, "piece 1000;", Bench.FAULT_2, 6);
        HoseDynasty x = new HoseDynasty();
        Bench.feed(x, "hope 12;");
        due("digits behind the n-th byte are none of it", x.house(6), Bench.FAULT_1);
        due("it ends there", x.fault(), 6);
    }

    static void terms_words_asManyLettersAsStandThere() {
        good(HOUSE, "hope7;piece1 0 0 0;collar0 1;fire0 1;");
        good(WORK, "turn0;lay0;bend0 1;burst0;patch0;hope1;again1[lift;hour;];");
        bad(HOUSE, "hopehope 7;", Bench.FAULT_1, 0);
        bad(HOUSE, "piec e 1 0 0 0;", Bench.FAULT_1, 0);
        bad(HOUSE, "fir 0 1;", Bench.FAULT_1, 0);
        bad(HOUSE, "Fire 0 1;", Bench.FAULT_1, 0);
        bad(HOUSE, "firE 0 1;", Bench.FAULT_1, 0);
        bad(LAW, "flowleast[1,2]", Bench.FAULT_1, 0);
        HoseDynasty x = new HoseDynasty();
        Bench.feed(x, "flowx");
        due("letters behind the n-th byte are none of it", x.law(4), 1);
        Bench.feed(x, "flow");
        due("a word that ends too early", x.law(3), Bench.FAULT_1);
        due("stands where it begins", x.fault(), 0);
    }

    static void terms_blanks_aheadOfAllAndAtTheEnd() {
        good(HOUSE, "  piece  1  2  3  4  ;  collar  0  1  ;  fire  0  1  ;  hope  7  ;  ");
        good(LAW, "  (  flow  +  1  )  *  least  [  1  ,  2  ]  -  most  [  3  ,  4  ]  ");
        good(WORK, "  turn  0  ;  again  2  [  bend  0  9  ;  hour  ;  ]  ;  lift  ;  ");
        good(BOOK, "  0  7  ;  5  99  ;  ");
        good(HOUSE, "piece1 2 3 4;collar0 1;fire0 1;hope7;");
    }

    static void terms_blanks_noOtherByteIsOne() {
        for (char sign : new char[] {0, 9, 10, 13, 31, 33, 127, 128, 160, 255}) {
            bad(HOUSE, "hope" + sign + "7;", Bench.FAULT_1, 4);
            bad(LAW, "flow" + sign, Bench.FAULT_1, 4);
            bad(WORK, sign + "hour;", Bench.FAULT_1, 0);
            bad(BOOK, "0" + sign + "7;", Bench.FAULT_1, 1);
        }
    }

    /** The bytes next to the digits and to the small letters are none. */
    static void terms_bytes_nextToDigitsAndLetters() {
        for (char sign : new char[] {'/', ':', '`', '{', '@', '[', 'a' + 128, '0' + 128}) {
            bad(HOUSE, "hope 1" + sign + ";", Bench.FAULT_1, 6);
            bad(HOUSE, "hope" + sign + "1;", Bench.FAULT_1, 4);
        }
        good(WORK, "hour;lay 0;patch 1;");
        due("a 9 is a digit", Bench.of("hope 99;").told(11), 99);
        due("a 0 is a digit", Bench.of("hope 00;").told(11), 0);
    }

    static void terms_faults_theFirstFromTheLeft() {
        bad(HOUSE, "hope 100;hop 1;", Bench.FAULT_2, 5);
        bad(HOUSE, "hop 1;hope 100;", Bench.FAULT_1, 0);
        bad(HOUSE, "piece 31 10 10 10;", Bench.FAULT_2, 6);
        bad(HOUSE, Bench.plain(6) + "hope 100;" + Bench.plain(1), Bench.FAULT_2, 89);
        bad(LAW, "1000+(((((((1", Bench.FAULT_2, 0);
        bad(LAW, "(((((((1000", Bench.FAULT_3, 6);
        bad(WORK, "turn 2", Bench.FAULT_2, 5);
        bad(WORK, "turn 1", Bench.FAULT_1, 6);
        bad(WORK, "bend 2 10;", Bench.FAULT_2, 5);
        bad(BOOK, "6 100", Bench.FAULT_2, 0);
        bad(BOOK, "0 100 0", Bench.FAULT_2, 2);
    }

    static void terms_faults_theTextEndsTooEarly() {
        bad(HOUSE, "hope", Bench.FAULT_1, 4);
        bad(HOUSE, "hope ", Bench.FAULT_1, 5);
        bad(HOUSE, "hope 7   ", Bench.FAULT_1, 9);
        bad(LAW, "flow -  ", Bench.FAULT_1, 8);
        bad(LAW, "least [ 1 , ", Bench.FAULT_1, 12);
        bad(WORK, "bend 0", Bench.FAULT_1, 6);
        bad(WORK, "again 2 [ hour ; ", Bench.FAULT_1, 17);
        bad(BOOK, "0", Bench.FAULT_1, 1);
        bad(BOOK, "0 7 ", Bench.FAULT_1, 4);
    }

    static void terms_faults_ofOneTheLeast() {
        bad(HOUSE, "hope1;".repeat(60) + "hopes1;", Bench.FAULT_1, 360);
        bad(HOUSE, "hope1;".repeat(60) + "1;", Bench.FAULT_1, 360);
        bad(HOUSE, "hope1;".repeat(60) + ";", Bench.FAULT_1, 360);
        bad(HOUSE, Bench.plain(6) + "pieces 1 0 0 0;", Bench.FAULT_1, 84);
        bad(LAW, "((((((leasts[1,2]", Bench.FAULT_1, 6);
        bad(LAW, "((((((;", Bench.FAULT_1, 6);
        bad(WORK, "again1[".repeat(6) + "agains1[", Bench.FAULT_1, 42);
        bad(BOOK, "0 1;1 1;2 1;3 1;4 1;5 1;0 1;", Bench.FAULT_2, 24);
    }

    public static void main(String[] args) {
        Bench.run(TextEdgesTest.class);
    }
}
