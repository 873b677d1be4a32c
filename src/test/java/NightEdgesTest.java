import java.util.function.ToLongFunction;

/** The edges that "Terms" names under "==== 2." (STEPS, HOURS, the water) and "==== 3." (what is asked): a test for each. */
public final class NightEdgesTest {
    private static final int NONE = Bench.NONE;
    private static final String SIX_HOURS = "hour;hour;hour;hour;hour;hour;";

    private static void due(String what, long got, long want) {
        Bench.due(what, got, want);
    }

    private static void due(String what, boolean got, boolean want) {
        Bench.due(what, got, want);
    }

    /** A WORK of one STEP that is REFUSED: it changes nothing but what told(10) tells. */
    private static void refuses(String house, String ahead, String step) {
        HoseDynasty x = Bench.of(house, ahead);
        due("done by " + step, Bench.work(x, step), 0);
        due("refused by " + step, x.told(10), 1);
        due("works", x.count(2), 2);
        HoseDynasty same = Bench.of(house, ahead, "again 0[];");
        Bench.dueText("what " + step + " left", Bench.allButRefused(x), Bench.allButRefused(same));
    }

    private static void does(HoseDynasty x, String step) {
        due("done by " + step, Bench.work(x, step), 1);
        due("refused by " + step, x.told(10), 0);
    }

    /** At HOUR 495 by three WORKS. */
    private static HoseDynasty late(String house) {
        return Bench.of(house, "again 30[" + SIX_HOURS + "];", "again 30[" + SIX_HOURS + "];", "again 27[hour;hour;hour;hour;hour;];");
    }

    // ==== 2. STEPS

    static void terms_steps_atFirst() {
        HoseDynasty x = Bench.rich();
        x.house(0);
        Bench.house(x, Bench.FULL);
        due("HOUR", x.told(3), 0);
        due("ROW", x.told(4), 0);
        due("fires that are out", x.told(8), 0);
        for (int p = 0; p < 6; p++) {
            for (int what = 4; what <= 6; what++) {
                due("piece(" + p + ", " + what + ")", x.piece(p, what), 0);
            }
            due("piece(" + p + ", 7)", x.piece(p, 7), NONE);
        }
        for (int f = 0; f < 5; f++) {
            due("fire(" + f + ", 3)", x.fire(f, 3), NONE);
        }
    }

    static void terms_steps_aTurnedPiece() {
        HoseDynasty x = Bench.of("piece 1 4 7 0;", "turn 0;");
        due("B at its head", x.piece(0, 1), 7);
        due("A at its foot", x.piece(0, 2), 4);
        Bench.work(x, "turn 0;");
        due("A at its head", x.piece(0, 1), 4);
        due("B at its foot", x.piece(0, 2), 7);
    }

    static void terms_steps_threadsThatFit() {
        HoseDynasty x = Bench.of("collar 9 0;collar 0 5;collar 5 7;");
        due("the same", x.fits(3, 3), true);
        due("joined", x.fits(9, 0), true);
        due("either way", x.fits(0, 9), true);
        due("not by two collars", x.fits(9, 5), false);
        due("not by three collars", x.fits(9, 7), false);
        due("not joined", x.fits(3, 4), false);
    }

    static void terms_steps_inOrder() {
        HoseDynasty x = Bench.of("piece 1 0 1 0;piece 1 1 0 0;");
        due("turn, then lay: not turned back", Bench.work(x, "turn 0;lay 0;turn 0;lay 1;"), 2);
        due("row", x.told(5), 1);
        due("undo", x.undo(), 0);
        due("lay, then lay", Bench.work(x, "lay 0;lay 1;turn 0;"), 2);
        due("row(1)", x.row(1), 1);
    }

    static void terms_steps_200AreBegun() {
        HoseDynasty x = new HoseDynasty();
        due("199 hours and an again", Bench.work(x, "again 30[" + SIX_HOURS + "];" + "hour;".repeat(19)), 199);
        due("none is refused", x.told(10), 0);
        due("the HOUR", x.told(3), 199);
        due("the next WORK begins anew", Bench.work(x, "again 30[" + SIX_HOURS + "];" + "hour;".repeat(19)), 199);
    }

    static void terms_steps_the201stIsLeftOut() {
        HoseDynasty x = new HoseDynasty();
        due("20 hours behind 181", Bench.work(x, "again 30[" + SIX_HOURS + "];" + "hour;".repeat(20)), 199);
        due("the HOUR", x.told(3), 199);
        HoseDynasty y = new HoseDynasty();
        due("a 201st that would be refused", Bench.work(y, "again 30[" + SIX_HOURS + "];" + "hour;".repeat(19) + "lift;"), 199);
        due("what is left out is not refused", y.told(10), 0);
        HoseDynasty z = new HoseDynasty();
        due("the 200th is refused", Bench.work(z, "again 30[" + SIX_HOURS + "];" + "hour;".repeat(18) + "lift;hour;"), 198);
        due("it counts", z.told(10), 1);
    }

    static void terms_steps_anAgainThatIsThe200th() {
        HoseDynasty x = new HoseDynasty();
        due("what is in it is left out", Bench.work(x, "again 30[" + SIX_HOURS + "];" + "hour;".repeat(18) + "again 2[hour;];"), 198);
        HoseDynasty y = new HoseDynasty();
        due("the 199th: one STEP of it is done", Bench.work(y, "again 30[" + SIX_HOURS + "];" + "hour;".repeat(17) + "again 2[hour;];"), 198);
    }

    static void terms_steps_anAgainEachTimeItIsComeTo() {
        HoseDynasty x = new HoseDynasty();
        due("7 begun each time, 3 done", Bench.work(x, "again 30[" + "again 0[];".repeat(4) + "hour;hour;hour;];"), 84);
        HoseDynasty y = new HoseDynasty();
        due("1 and 6 times 31, then 1 and 12", Bench.work(y, "again 30[again 30[hour;];];"), 192);
        HoseDynasty z = new HoseDynasty();
        due("an again is no STEP that is done", Bench.work(z, "again 3[again 2[hour;];hour;];"), 9);
    }

    static void terms_steps_refusedOnesAreBegun() {
        HoseDynasty x = new HoseDynasty();
        due("none done", Bench.work(x, "again 30[" + "lift;".repeat(7) + "];"), 0);
        due("199 refused", x.told(10), 199);
    }

    static void terms_steps_turn() {
        HoseDynasty x = Bench.of("piece 1 0 1 0;piece 1 2 3 0;");
        does(x, "turn 0;");
        due("turned", x.piece(0, 6), 1);
        due("the other is not", x.piece(1, 6), 0);
        does(x, "turn 0;");
        due("turned back", x.piece(0, 6), 0);
        refuses("piece 1 0 1 0;piece 1 1 3 0;", "lay 0;lay 1;", "turn 0;");
        refuses("piece 1 0 1 0;piece 1 1 3 0;", "lay 0;lay 1;", "turn 1;");
        Bench.work(x, "lay 0;");
        does(x, "turn 1;");
        Bench.work(x, "lift;");
        does(x, "turn 0;");
    }

    static void terms_steps_lay() {
        HoseDynasty x = Bench.of("piece 1 0 1 0;piece 1 2 3 0;piece 1 5 0 0;piece 1 1 1 0;collar 1 5;");
        does(x, "lay 0;");
        does(x, "lay 2;");
        due("it is the last", x.row(1), 2);
        refuses("piece 1 0 0 0;", "lay 0;", "lay 0;");
        refuses("piece 1 0 0 0;piece 1 0 0 0;", "lay 0;lay 1;", "lay 0;");
        refuses("piece 1 0 1 0;piece 1 2 1 0;", "lay 0;", "lay 1;");
        refuses("piece 1 0 1 0;piece 1 1 2 0;piece 1 1 3 0;", "lay 0;lay 1;", "lay 2;");
        refuses("piece 1 0 1 0;piece 1 1 2 0;", "turn 0;lay 0;", "lay 1;");
        refuses("piece 1 0 1 0;piece 1 1 2 0;", "turn 1;lay 0;", "lay 1;");
    }

    static void terms_steps_layOnAnEmptyRow() {
        for (int p = 0; p < 6; p++) {
            does(Bench.of(Bench.FULL), "lay " + p + ";");
        }
        HoseDynasty x = Bench.of("piece 1 0 1 0;piece 1 5 6 0;", "lay 0;lift;");
        does(x, "lay 1;");
    }

    static void terms_steps_layAllSix() {
        HoseDynasty x = Bench.of(Bench.plain(6));
        due("six", Bench.work(x, "lay 5;lay 4;lay 3;lay 2;lay 1;lay 0;lay 0;"), 6);
        due("row", x.told(5), 63);
        due("the last place", x.piece(0, 7), 5);
    }

    static void terms_steps_lift() {
        HoseDynasty x = Bench.of(Bench.plain(2), "lay 1;lay 0;");
        does(x, "lift;");
        due("the last was taken up", x.told(5), 2);
        does(x, "lift;");
        due("it is empty", x.told(4), 0);
        refuses(Bench.plain(2), "lay 0;lift;", "lift;");
        refuses("", "hour;", "lift;");
    }

    static void terms_steps_bend() {
        HoseDynasty x = Bench.of(Bench.plain(2));
        does(x, "bend 0 9;");
        does(x, "bend 0 8;");
        does(x, "bend 0 0;");
        due("bends", x.piece(0, 4), 0);
        refuses(Bench.plain(2), "lay 0;", "bend 0 0;");
        refuses(Bench.plain(2), "bend 1 9;bend 0 5;", "bend 1 9;");
        does(Bench.of(Bench.plain(2), "bend 1 9;"), "bend 0 9;");
    }

    static void terms_steps_burst() {
        HoseDynasty x = Bench.of(Bench.plain(2), "again 8[burst 1;];");
        does(x, "burst 1;");
        due("nine", x.piece(1, 5), 9);
        does(x, "burst 0;");
        refuses(Bench.plain(2), "again 9[burst 1;];", "burst 1;");
    }

    static void terms_steps_patch() {
        HoseDynasty x = Bench.of(Bench.plain(2), "burst 1;");
        does(x, "patch 1;");
        due("none", x.piece(1, 5), 0);
        refuses(Bench.plain(2), "burst 0;", "patch 1;");
        refuses(Bench.plain(2), "burst 1;patch 1;", "patch 1;");
        does(Bench.of(Bench.plain(2), "again 9[burst 1;];"), "patch 1;");
    }

    static void terms_steps_hope() {
        HoseDynasty x = new HoseDynasty();
        does(x, "hope 0;");
        does(x, "hope 99;");
        does(x, "hope 98;");
        refuses("", "hope 7;", "hope 7;");
        refuses("", "hour;", "hope 60;");
        refuses("hope 7;", "hour;", "hope 7;");
        refuses("", "hope 0;", "hope 0;");
    }

    static void terms_steps_hourIsRefusedFrom500On() {
        HoseDynasty x = late("fire 0 60;fire 0 99;");
        due("HOUR", x.told(3), 495);
        due("to 499", Bench.work(x, "hour;hour;hour;hour;"), 4);
        does(x, "hour;");
        due("HOUR", x.told(3), 500);
        due("out in 499", x.fire(0, 3), 499);
        due("refused", Bench.work(x, "hope 99;hour;hour;hope 0;again 9[hour;];"), 2);
        due("how many", x.told(10), 11);
        due("HOUR stays", x.told(3), 500);
        due("a FIRE that is reached burns on", x.fire(1, 3), NONE);
        due("one that was out stays so", x.fire(0, 3), 499);
    }

    static void terms_hour_reachedFiresAreOutInThisHour() {
        HoseDynasty x = Bench.of("fire 0 60;fire 0 61;", "hour;");
        due("out in 0", x.fire(0, 3), 0);
        due("the other burns", x.fire(1, 3), NONE);
        due("HOUR", x.told(3), 1);
        Bench.work(x, "hour;hope 61;hour;");
        due("the last time", x.fire(0, 3), 2);
        due("out in 2", x.fire(1, 3), 2);
    }

    static void terms_hour_burnsAgain9HoursBehind() {
        HoseDynasty x = Bench.of("fire 0 60;", "hour;hour;hope 59;", "again 8[hour;];");
        due("HOUR", x.told(3), 10);
        due("8 hours behind: still out", x.fire(0, 3), 1);
        Bench.work(x, "hour;");
        due("9 hours behind: it burns", x.fire(0, 3), NONE);
        due("HOUR", x.told(3), 11);
        Bench.work(x, "hour;");
        due("it burns on", x.fire(0, 3), NONE);
        Bench.work(x, "hope 60;hour;");
        due("out once more", x.fire(0, 3), 12);
    }

    static void terms_hour_oneThatIsReachedDoesNotBurnAgain() {
        HoseDynasty x = Bench.of("fire 0 60;", "hour;hope 59;", "again 8[hour;];hope 60;hour;");
        due("reached 9 hours behind", x.fire(0, 3), 9);
        Bench.work(x, "hope 0;again 8[hour;];");
        due("8 hours behind that", x.fire(0, 3), 9);
        Bench.work(x, "hour;");
        due("9 hours behind that", x.fire(0, 3), NONE);
    }

    static void terms_water_emptyRow() {
        HoseDynasty x = Bench.of("piece 1 0 0 9;fire 0 60;fire 0 61;fire 1 1;hope 60;");
        Bench.law(x, "7");
        due("the hope ARRIVES", x.told(7), 60);
        due("LONG", x.told(6), 0);
        due("reached", x.fire(0, 2), 1);
        due("not enough", x.fire(1, 2), 0);
        due("not long enough", x.fire(2, 2), 0);
        Bench.work(x, "hope 0;");
        due("no hope", x.told(7), 0);
        Bench.work(x, "hope 99;");
        due("all hope", x.told(7), 99);
    }

    static void terms_water_fromOneToTheNext() {
        HoseDynasty x = Bench.of("piece 1 0 0 9;piece 2 0 0 8;piece 3 0 0 7;hope 50;", "lay 2;lay 0;lay 1;");
        due("the hope to the first", x.behind(0), 43);
        due("to the second", x.behind(1), 34);
        due("to the last", x.behind(2), 26);
        due("it ARRIVES", x.told(7), 26);
        Bench.work(x, "hope 7;");
        due("just nothing", x.behind(0), 0);
        due("nothing to the second: 0 at least", x.behind(1), 0);
    }

    static void terms_water_howLongAndHowMuch() {
        HoseDynasty x = Bench.of("piece 10 0 0 1;piece 10 0 0 1;fire 20 58;fire 21 58;fire 20 59;fire 19 57;", "lay 0;lay 1;");
        due("as far, as much", x.fire(0, 2), 1);
        due("one too far", x.fire(1, 2), 0);
        due("one too little", x.fire(2, 2), 0);
        due("less far, less much", x.fire(3, 2), 1);
        Bench.work(x, "hope 59;");
        due("one less", x.fire(0, 2), 0);
        due("just as much", x.fire(3, 2), 1);
        HoseDynasty longest = Bench.of("piece 30 0 0 0;".repeat(6) + "fire 180 60;fire 181 60;fire 200 1;", "again 1[lay 0;lay 1;lay 2;];lay 3;lay 4;lay 5;");
        due("180 LONG", longest.told(6), 180);
        due("180 far", longest.fire(0, 2), 1);
        due("181 far", longest.fire(1, 2), 0);
    }

    // ==== 3. what is asked

    /** Each question by itself: nothing stays changed by it, and asked once more it answers the same. */
    private static void asked(String what, ToLongFunction<HoseDynasty> question) {
        HoseDynasty x = Bench.rich();
        String before = Bench.now(x);
        long answer = question.applyAsLong(x);
        Bench.dueText("what " + what + " left", Bench.now(x), before);
        due(what + " once more", question.applyAsLong(x), answer);
        Bench.keeps(what, Bench::rich, question::applyAsLong);
    }

    static void terms_asked_nothingStaysChanged() {
        for (int k = 0; k <= 4; k++) {
            int f = k;
            asked("fire(" + f + ", 2)", x -> x.fire(f, 2));
            asked("brief(" + f + ")", x -> x.brief(f));
            asked("briefly(" + f + ", 0)", x -> x.briefly(f, 0));
            asked("needed(" + f + ")", x -> x.needed(f));
            asked("sure(" + f + ", 5, 0)", x -> x.sure(f, 5, 0));
            asked("share(" + f + ", 31, 99)", x -> x.share(f, 31, 99));
            asked("span of fire " + f, x -> x.span(5, 20, 96, 4, 2, f));
        }
        for (int k = 0; k <= 1; k++) {
            int what = k;
            asked("chain(" + what + ")", x -> x.chain(what));
            asked("chained(" + what + ")", x -> x.chained(what));
            asked("joiner(" + what + ")", x -> x.joiner(what));
            asked("leaks(" + what + ")", x -> x.leaks(what));
            asked("look(" + what + ")", x -> x.look(what));
            asked("next(" + what + ")", x -> x.next(what));
            asked("worst(" + what + ")", x -> x.worst(what));
            asked("street(50, 1, " + what + ")", x -> x.street(50, 1, what));
            asked("year(5, 96, 4, " + what + ")", x -> x.year(5, 96, 4, what));
            asked("year(5, 96, 4, " + (what + 2) + ")", x -> x.year(5, 96, 4, what + 2));
        }
        asked("ahead(99)", x -> x.ahead(99));
        asked("wed()", HoseDynasty::wed);
        asked("would", x -> x.would(1, 1, 1, 1, 1, 1, 1, 1, 1));
        asked("fits(0, 1)", x -> x.fits(0, 1) ? 1 : 0);
        asked("can(1)", x -> x.can(1) ? 1 : 0);
        asked("kin(0)", x -> x.kin(0));
        asked("status(0)", x -> x.status(0));
        asked("count(0)", x -> x.count(0));
        asked("behind(0)", x -> x.behind(0));
    }

    static void terms_asked_hoursBeyond500() {
        HoseDynasty x = late("piece 1 0 0 0;fire 0 60;fire 0 99;");
        Bench.work(x, "hour;hour;hour;hour;hour;hope 99;");
        due("HOUR", x.told(3), 500);
        due("now", x.ahead(0), 1);
        due("put out in HOUR 500", x.ahead(1), 3);
        due("put out by a YEAR", x.year(1, 1, 0, 0), 1);
        Bench.work(x, "hope 0;");
        due("out in 499: in 8 HOURS", x.ahead(8), 1);
        due("in 9 HOURS: burnt again in 508", x.ahead(9), 0);
        due("by a YEAR of 8", x.span(1, 20, 8, 16, 2, 0), 20);
        due("by a YEAR of 9", x.span(1, 20, 9, 16, 2, 0), 0);
    }

    static void terms_chain_ofNoPieces() {
        HoseDynasty x = new HoseDynasty();
        due("chain(0)", x.chain(0), 0);
        due("chain(1)", x.chain(1), 0);
        due("chained(0)", x.chained(0), NONE);
    }

    static void terms_chain_ofOnePiece() {
        HoseDynasty x = Bench.of("piece 1 0 0 0;");
        due("no PIECE twice", x.chain(0), 1);
        due("one", x.chain(1), 1);
        due("as told", x.chained(0), 0);
        due("no second", x.chained(1), NONE);
    }

    static void terms_chain_ofAllSix() {
        HoseDynasty x = Bench.of("piece 30 0 1 9;".repeat(6), "lay 3;turn 0;bend 1 9;");
        due("180", x.chain(0), 180);
        due("six", x.chain(1), 6);
        int[] ways = {0, 3, 4, 7, 8, 11, NONE, NONE};
        for (int k = 0; k < ways.length; k++) {
            due("chained(" + k + ")", x.chained(k), ways[k]);
        }
    }

    static void terms_chain_theLongestNotTheMost() {
        due("one of 30", Bench.of("piece 14 0 0 0;piece 15 0 0 0;piece 30 5 5 0;").chained(0), 4);
        due("two of 31", Bench.of("piece 15 0 0 0;piece 16 0 0 0;piece 30 5 5 0;").chain(1), 2);
    }

    static void terms_chain_ofAsLongOnesTheFirst() {
        HoseDynasty x = Bench.of("piece 30 5 5 0;piece 15 0 0 0;piece 15 0 0 0;");
        due("30 by the first PIECE", x.chained(0), 0);
        due("of one", x.chain(1), 1);
        HoseDynasty y = Bench.of("piece 15 0 0 0;piece 30 5 5 0;piece 15 0 0 0;");
        due("30 by the first PIECE", y.chained(0), 0);
        due("of two", y.chained(1), 4);
        HoseDynasty z = Bench.of("piece 7 1 2 0;piece 7 2 2 0;piece 7 2 3 0;");
        due("the second, then the third", z.chained(1), 2);
        due("the third", z.chained(2), 4);
    }

    static void terms_chain_asToldAheadOfTurned() {
        HoseDynasty x = Bench.of("piece 7 3 3 0;piece 7 3 3 0;", "turn 0;turn 1;");
        due("as told, whatever is turned now", x.chained(0), 0);
        due("as told, whatever is turned now", x.chained(1), 2);
        HoseDynasty y = Bench.of("piece 7 1 2 0;piece 7 1 3 0;");
        due("it must be turned", y.chained(0), 1);
        due("as told", y.chained(1), 2);
        HoseDynasty z = Bench.of("piece 7 1 2 0;piece 7 3 2 0;");
        due("as told", z.chained(0), 0);
        due("it must be turned", z.chained(1), 3);
    }

    static void terms_chain_joinedByACollarOnly() {
        due("by a COLLAR", Bench.of("piece 7 1 2 0;piece 7 3 4 0;collar 2 3;").chain(0), 14);
        due("by a COLLAR told the other way", Bench.of("piece 7 1 2 0;piece 7 3 4 0;collar 3 2;").chain(0), 14);
        due("not by two", Bench.of("piece 7 1 2 0;piece 7 3 4 0;collar 2 5;collar 5 3;").chain(0), 7);
    }

    static void terms_short_theEmptyRow() {
        HoseDynasty x = Bench.of("piece 9 0 0 0;fire 0 60;fire 0 61;fire 1 60;");
        due("0 PIECES reach it", x.brief(0), 0);
        due("its first", x.briefly(0, 0), NONE);
        due("one too little", x.brief(1), NONE);
        due("one too far", x.brief(2), 1);
        due("no PIECES at all", Bench.of("fire 0 60;").brief(0), 0);
        due("no PIECES at all, too far", Bench.of("fire 1 60;").brief(0), NONE);
    }

    static void terms_short_theFewestPieces() {
        HoseDynasty x = Bench.of("piece 10 0 0 1;piece 10 0 0 1;piece 20 0 0 9;fire 20 51;fire 20 52;fire 20 58;fire 20 59;fire 40 49;");
        due("one by the third", x.brief(0), 1);
        due("the third", x.briefly(0, 0), 4);
        due("two by the others", x.brief(1), 2);
        due("just as much", x.brief(2), 2);
        due("one too much", x.brief(3), NONE);
        due("all three", x.brief(4), 3);
        HoseDynasty y = Bench.of("piece 10 0 0 1;piece 10 0 0 1;piece 20 0 0 9;fire 40 50;fire 41 1;");
        due("one too much", y.brief(0), NONE);
        due("one too far", y.brief(1), NONE);
    }

    static void terms_short_allSix() {
        HoseDynasty x = Bench.of("piece 30 0 0 0;".repeat(6) + "fire 180 60;fire 181 60;fire 180 61;");
        due("all six", x.brief(0), 6);
        due("the last one", x.briefly(0, 5), 10);
        due("no seventh", x.briefly(0, 6), NONE);
        due("one too far", x.brief(1), NONE);
        due("none of none", x.briefly(1, 0), NONE);
        due("one too much", x.brief(2), NONE);
    }

    static void terms_short_ofAsFewTheFirst() {
        HoseDynasty x = Bench.of("piece 10 0 0 0;piece 30 0 0 0;piece 30 0 0 0;piece 20 0 0 0;fire 30 1;fire 50 1;fire 60 1;");
        due("the second ahead of the third", x.briefly(0, 0), 2);
        due("the second", x.briefly(1, 0), 2);
        due("and the third, ahead of the fourth", x.briefly(1, 1), 4);
        due("both", x.briefly(2, 1), 4);
        HoseDynasty turned = Bench.of("piece 10 1 1 0;fire 10 60;");
        due("as told ahead of turned", turned.briefly(0, 0), 0);
        Bench.law(turned, "turned * 60");
        due("turned, if it must be", turned.briefly(0, 0), 1);
    }

    /** A row that leaves much and one that leaves 0 behind the same PIECE are two rows, each gone on with. */
    static void terms_short_0And99AreUnlike() {
        for (int much = 90; much <= 99; much++) {
            HoseDynasty x = Bench.of("piece 10 0 0 0;piece 10 0 0 0;fire 20 " + much + ";");
            Bench.law(x, "(1 - place) * (1 - turned) * " + much + " + place * (" + much + " - flow)");
            due("the first one turned", x.brief(0), 2);
            due("turned", x.briefly(0, 0), 1);
            due("as told", x.briefly(0, 1), 2);
        }
    }

    /** One less behind the same PIECES in another order: too little. */
    static void terms_short_oneLessIsUnlike() {
        for (int hope = 5; hope <= 99; hope++) {
            HoseDynasty x = Bench.of("piece 1 0 0 0;piece 1 0 0 0;piece 1 0 9 0;fire 3 " + (hope - 4) + ";hope " + hope + ";");
            Bench.law(x, "flow - piece * place");
            due("three by hope " + hope, x.brief(0), 3);
            due("PIECE 1, by hope " + hope, x.briefly(0, 0), 2);
            due("then 0, by hope " + hope, x.briefly(0, 1), 0);
            due("then 2, by hope " + hope, x.briefly(0, 2), 4);
        }
    }

    private static void isShort(String house, String law, int... ways) {
        HoseDynasty x = Bench.of(house);
        Bench.law(x, law);
        due("how many by " + law, x.brief(0), ways.length);
        for (int k = 0; k < ways.length; k++) {
            due("the one of place " + k + " by " + law, x.briefly(0, k), ways[k]);
        }
        due("no more by " + law, x.briefly(0, ways.length), NONE);
    }

    /** Answers by trying all rows (Model): many rows, of which few leave enough. */
    static void terms_short_amongManyRows() {
        isShort("piece 1 1 0 1;piece 1 0 1 6;piece 1 1 0 9;piece 1 0 0 6;piece 1 1 0 3;piece 1 1 0 7;fire 5 31;hope 66;",
            "flow - loss - place * piece", 8, 6, 5, 3, 1);
        isShort("piece 1 1 0 8;piece 1 0 0 5;piece 1 1 1 9;piece 1 0 1 3;piece 1 0 1 7;piece 1 0 1 5;fire 3 80;hope 21;",
            "(flow * 7 + piece) % 100", 2, 8, 0);
        isShort("piece 1 0 1 0;piece 1 0 1 5;piece 1 1 0 6;piece 1 1 1 3;piece 1 0 0 9;piece 1 1 1 0;fire 6 22;hope 68;",
            "flow - loss * place", 2, 4, 8, 0, 6, 10);
        isShort("piece 1 0 1 1;piece 1 0 1 8;piece 1 1 1 3;piece 1 0 1 9;piece 1 0 0 2;fire 5 97;hope 51;",
            "(flow * 7 + piece) % 100", 4, 7, 0, 3, 8);
    }

    static void terms_short_bendsAndBurstsAsNow() {
        HoseDynasty x = Bench.of("piece 10 0 0 0;piece 10 0 0 0;fire 10 60;fire 10 55;fire 10 58;", "burst 0;bend 1 1;");
        due("neither", x.brief(0), NONE);
        due("the burst one", x.briefly(1, 0), 0);
        due("the bent one", x.briefly(2, 0), 2);
        Bench.work(x, "lay 1;lay 0;");
        due("whatever lies there", x.brief(2), 1);
    }

    static void terms_collar_ofNoPieces() {
        HoseDynasty x = new HoseDynasty();
        due("no CHAIN", x.joiner(0), 0);
        due("the first two THREADS", x.joiner(1), 1);
        due("those that FIT are passed over", Bench.of("collar 1 0;collar 0 2;collar 3 0;collar 0 4;").joiner(1), 5);
    }

    static void terms_collar_theLesserFirst() {
        due("8 and 9", Bench.of("piece 5 9 9 0;piece 5 8 8 0;").joiner(1), 89);
        due("their CHAIN", Bench.of("piece 5 9 9 0;piece 5 8 8 0;").joiner(0), 10);
        due("0 and 1", Bench.of("piece 5 1 1 0;piece 5 0 0 0;").joiner(1), 1);
        due("0 and 9", Bench.of("piece 5 9 9 0;piece 5 0 0 0;").joiner(1), 9);
    }

    static void terms_collar_ofAlikeOnesTheFirst() {
        HoseDynasty x = Bench.of("piece 5 3 3 0;piece 5 4 4 0;piece 5 7 7 0;");
        due("3 and 4", x.joiner(1), 34);
        due("of two", x.joiner(0), 10);
        due("6 more by 4 and 7", Bench.of("piece 5 3 3 0;piece 5 4 4 0;piece 6 7 7 0;").joiner(1), 37);
        due("all joined already", Bench.of("piece 5 3 3 0;piece 5 4 4 0;collar 3 4;").joiner(1), 1);
    }

    static void terms_collar_oneMoreThan4() {
        HoseDynasty x = Bench.of("piece 5 3 3 0;piece 5 4 4 0;collar 0 1;collar 0 2;collar 1 2;collar 5 6;");
        due("a fifth", x.joiner(1), 34);
        due("the CHAIN by it", x.joiner(0), 10);
        due("the CHAIN now", x.chain(0), 5);
        due("COLLARS", x.told(1), 4);
    }

    static void terms_leaks_from1To30() {
        HoseDynasty x = Bench.of(Bench.plain(1), "lay 0;");
        int[][] lines = {{60, 0, NONE}, {59, 1, 1}, {58, 1, 2}, {31, 1, 29}, {30, 1, 30}, {29, 0, NONE}, {99, 0, NONE}, {0, 0, NONE}};
        for (int[] line : lines) {
            Bench.book(x, "0 " + line[0] + ";");
            due("pairs by " + line[0], x.leaks(0), line[1]);
            due("the first by " + line[0], x.leaks(1), line[2]);
        }
    }

    static void terms_leaks_0AtLeast() {
        HoseDynasty x = Bench.of(Bench.plain(1) + "hope 20;", "lay 0;");
        Bench.book(x, "0 0;");
        due("20 to 30", x.leaks(0), 11);
        due("the first", x.leaks(1), 20);
        Bench.work(x, "hope 30;");
        due("30 alone", x.leaks(0), 1);
        Bench.work(x, "hope 31;");
        due("none", x.leaks(0), 0);
        Bench.work(x, "hope 0;");
        due("all", x.leaks(0), 30);
    }

    static void terms_leaks_withoutLines() {
        HoseDynasty x = Bench.of(Bench.plain(6), "lay 0;lay 1;lay 2;lay 3;lay 4;lay 5;");
        due("all pairs of six places", x.leaks(0), 180);
        due("the first", x.leaks(1), 1);
        Bench.work(x, "lift;lift;lift;lift;lift;");
        due("of one place", x.leaks(0), 30);
        Bench.work(x, "lift;");
        due("of none", x.leaks(0), 0);
        due("of none", x.leaks(1), NONE);
    }

    static void terms_leaks_aLineOfNoPlaceOfTheRow() {
        HoseDynasty x = Bench.of(Bench.plain(3), "lay 0;lay 1;");
        Bench.book(x, "1 59;");
        due("the last place", x.leaks(0), 2);
        Bench.book(x, "2 59;");
        due("the first beyond", x.leaks(0), 0);
        Bench.book(x, "2 0;");
        due("0, too", x.leaks(0), 0);
        Bench.book(x, "1 59;5 59;");
        due("one of two", x.leaks(0), 0);
    }

    static void terms_leaks_theFirstByPlaceThenByHowMuch() {
        HoseDynasty x = Bench.of(Bench.plain(6), "lay 0;lay 1;lay 2;lay 3;lay 4;lay 5;");
        Bench.book(x, "4 60;5 50;");
        due("the last place", x.leaks(1), 510);
        Bench.book(x, "0 60;5 50;");
        due("the second place", x.leaks(1), 110);
        due("five places", x.leaks(0), 5);
        Bench.book(x, "0 30;");
        due("the most at the first", x.leaks(1), 30);
    }

    static void terms_look_allInLinesOrEmpty() {
        HoseDynasty x = Bench.of(Bench.plain(2));
        due("empty", x.look(0), NONE);
        due("empty", x.look(1), NONE);
        Bench.work(x, "lay 0;");
        due("one place", x.look(0), 0);
        Bench.book(x, "0 59;");
        due("all in lines", x.look(0), NONE);
        due("all in lines", x.look(1), NONE);
        Bench.work(x, "lay 1;");
        due("one more place", x.look(0), 1);
        Bench.book(x, "1 59;");
        due("the other one", x.look(0), 0);
        Bench.book(x, "0 59;1 59;");
        due("all in lines", x.look(0), NONE);
        Bench.book(x, "2 59;3 59;4 59;5 59;");
        due("lines of other places", x.look(0), 0);
        due("none are left", x.look(1), 0);
    }

    static void terms_look_fewestAtTheWorstTheFirst() {
        HoseDynasty x = Bench.of(Bench.plain(3) + "hope 20;", "lay 0;lay 1;lay 2;");
        due("60, 30, 33 at the worst", x.look(0), 1);
        due("how many", x.look(1), 30);
        Bench.book(x, "2 15;");
        due("2 and 2 at the worst: the first", x.look(0), 0);
        due("how many", x.look(1), 2);
        HoseDynasty one = Bench.of(Bench.plain(1) + "hope 99;", "lay 0;");
        due("each leak by itself", one.look(1), 1);
        Bench.work(one, "hope 0;");
        due("all the same", one.look(1), 30);
    }

    static void terms_look_0And99() {
        HoseDynasty x = Bench.of(Bench.plain(2) + "hope 99;", "lay 0;lay 1;");
        Bench.law(x, "flow * (1 - place)");
        due("99 at place 0 by 30, 0 at place 1 by 60", x.look(0), 0);
        due("30 at the worst", x.look(1), 30);
    }

    static void terms_wed_theLastTwo() {
        String others = "piece 1 1 2 0;piece 1 3 4 0;piece 1 5 6 0;piece 1 7 8 0;";
        due("the foot of the last but one", Bench.of(others + "piece 1 9 0 0;piece 1 0 9 0;").wed(), 1);
        due("the foot of the last", Bench.of(others + "piece 1 9 0 0;piece 1 0 0 0;").wed(), 1);
        due("the foot of the last alone", Bench.of(others + "piece 1 9 9 0;piece 1 0 9 0;").wed(), 1);
        due("neither", Bench.of(others + "piece 1 9 9 0;piece 1 0 0 0;").wed(), 0);
    }

    static void terms_wed_noneInTwo() {
        due("no PIECES", new HoseDynasty().wed(), 0);
        due("one, not with itself", Bench.of(Bench.plain(1)).wed(), 0);
        for (int many = 2; many <= 6; many++) {
            due(many + " PIECES", Bench.of(Bench.plain(many)).wed(), many / 2);
        }
    }

    static void terms_wed_asTold() {
        due("foot to head", Bench.of("piece 1 1 2 0;piece 1 2 3 0;").wed(), 1);
        due("head to foot", Bench.of("piece 1 2 3 0;piece 1 1 2 0;").wed(), 1);
        due("foot to foot", Bench.of("piece 1 1 2 0;piece 1 3 2 0;").wed(), 0);
        due("head to head", Bench.of("piece 1 2 1 0;piece 1 2 3 0;").wed(), 0);
        due("turned now", Bench.of("piece 1 1 2 0;piece 1 3 2 0;", "turn 1;").wed(), 0);
        due("by a COLLAR", Bench.of("piece 1 1 2 0;piece 1 3 4 0;collar 3 2;").wed(), 1);
    }

    static void terms_sure_qOf16() {
        HoseDynasty x = Bench.of("piece 1 0 0 0;fire 1 60;fire 1 55;fire 1 61;", "lay 0;");
        int[][] parts = {{0, 1, 1}, {1, 15, 16}, {2, 7, 8}, {4, 3, 4}, {8, 1, 2}, {12, 1, 4}, {15, 1, 16}, {16, 0, 1}};
        for (int[] part : parts) {
            due("above by " + part[0], x.sure(0, part[0], 0), part[1]);
            due("below by " + part[0], x.sure(0, part[0], 1), part[2]);
            due("for sure by " + part[0], x.sure(1, part[0], 0), 1);
            due("for sure by " + part[0], x.sure(1, part[0], 1), 1);
            due("never by " + part[0], x.sure(2, part[0], 0), 0);
            due("never by " + part[0], x.sure(2, part[0], 1), 1);
        }
    }

    static void terms_sure_anEmptyRow() {
        HoseDynasty x = Bench.of("fire 0 60;fire 0 61;");
        due("reached", x.sure(0, 16, 0), 1);
        due("reached", x.sure(0, 16, 1), 1);
        due("not reached", x.sure(1, 0, 0), 0);
        due("not reached", x.sure(1, 0, 1), 1);
    }

    static void terms_sure_aFullRow() {
        HoseDynasty x = Bench.of(Bench.plain(6) + "fire 6 60;fire 6 30;fire 6 31;", "lay 0;lay 1;lay 2;lay 3;lay 4;lay 5;");
        due("15 to the sixth", x.sure(0, 1, 0), 11390625);
        due("16 to the sixth", x.sure(0, 1, 1), 16777216);
        due("all six may burst", x.sure(1, 16, 0), 1);
        due("all but one", x.sure(2, 8, 0), 63);
        due("of 64", x.sure(2, 8, 1), 64);
    }

    static void terms_sure_onceMoreThan9() {
        HoseDynasty x = Bench.of("piece 1 0 0 0;fire 1 10;hope 55;", "lay 0;again 9[burst 0;];");
        due("9 bursts leave 10, 10 leave 5", x.sure(0, 4, 0), 3);
        due("of 4", x.sure(0, 4, 1), 4);
        due("bursts", x.piece(0, 5), 9);
    }

    static void terms_street_anEmptyRow() {
        HoseDynasty x = Bench.of(Bench.plain(2), "bend 0 5;");
        due("one", x.street(99, 9, 0), 1);
        due("none and none", x.street(99, 9, 1), 88);
        due("together", x.street(99, 9, 2), 99);
    }

    static void terms_street_whatItIsWorth() {
        HoseDynasty x = Bench.of(Bench.plain(1), "lay 0;bend 0 1;");
        due("w 1: both bend", x.street(50, 1, 1), 0);
        due("w 1: both pay", x.street(50, 1, 2), 48);
        due("w 1: one RESTS", x.street(50, 1, 0), 1);
        due("w 2: all the same", x.street(50, 2, 0), 4);
        due("w 2: the first", x.street(50, 2, 1), 0);
        due("w 3: neither", x.street(50, 3, 1), 88);
        due("w 3: one RESTS", x.street(50, 3, 0), 1);
        due("w 0: for nothing", x.street(50, 0, 2), 50);
    }

    static void terms_street_aBendThatIsThere() {
        HoseDynasty x = Bench.of(Bench.plain(2), "lay 0;lay 1;");
        due("none to take", x.street(0, 1, 1), 8);
        Bench.work(x, "bend 1 1;");
        due("one to take", x.street(0, 1, 1), 1);
        Bench.work(x, "bend 0 9;bend 1 0;");
        due("9 to take from, a 10th to give", x.street(0, 1, 0), 2);
        due("the first", x.street(0, 1, 1), 0);
        Bench.work(x, "lift;bend 1 9;");
        due("of the ROW alone", x.street(0, 1, 0), 1);
    }

    static void terms_street_none() {
        HoseDynasty x = Bench.of(Bench.plain(1), "lay 0;bend 0 2;");
        Bench.law(x, "20 - bends % 2 * 10");
        due("no RESTS", x.street(9, 0, 0), 0);
        due("no first", x.street(9, 0, 1), NONE);
        due("0 without", x.street(9, 0, 2), 0);
    }

    static void terms_street_8Behind() {
        HoseDynasty x = Bench.of(Bench.plain(6), "lay 0;lay 1;lay 2;lay 3;lay 4;lay 5;bend 5 1;");
        Bench.law(x, "flow");
        due("all are the same for nothing", x.street(9, 0, 0), 14);
        due("place 0, place 5", x.street(9, 0, 1), 5);
        due("none, if it costs", x.street(9, 1, 1), 88);
        Bench.law(x, "flow - bends * (place / 5) * 3");
        due("the last place, the last place", x.street(9, 2, 1), 55);
    }

    static void terms_shares_all() {
        HoseDynasty x = Bench.of("fire 0 1;fire 0 50;fire 0 99;");
        due("just all", x.share(2, 7, 150), 99);
        due("more than all", x.share(2, 7, 999), 99);
        due("one less", x.share(2, 7, 149), 98);
        due("of the least", x.share(0, 7, 149), 1);
        due("of the middle", x.share(1, 7, 149), 50);
    }

    static void terms_shares_theGreatestBound() {
        HoseDynasty x = Bench.of("fire 0 50;fire 0 50;fire 0 50;fire 0 50;fire 0 50;");
        due("nothing", x.share(0, 31, 0), 0);
        due("less than one each", x.share(0, 31, 4), 0);
        due("one each", x.share(0, 31, 5), 1);
        due("one each, four left over", x.share(4, 31, 9), 1);
        due("two each", x.share(4, 31, 10), 2);
        due("49 each", x.share(4, 31, 249), 49);
        due("50 each", x.share(4, 31, 250), 50);
    }

    private static int seed;

    private static int drawn(int by) {
        seed = seed * 1103515245 + 12345;
        return (seed >>> 16 & 0x7fff) % by;
    }

    static void terms_year_withoutPieces() {
        HoseDynasty x = Bench.of("fire 0 60;fire 1 1;");
        due("HOURS go by", x.year(1, 1, 16, 0), 1);
        due("put out once", x.year(1, 96, 16, 0), 1);
        due("the ROW", x.year(1, 96, 16, 1), 0);
        due("it ARRIVES", x.year(1, 96, 0, 2), 60);
        due("bursts", x.year(1, 96, 0, 3), 0);
        due("none at all", new HoseDynasty().year(1, 96, 16, 0), 0);
    }

    static void terms_year_whatIsDrawn() {
        int[] seeds = {0, 1, -1, 7, 1000, 65536, Integer.MAX_VALUE, Integer.MIN_VALUE, 0x7fff0000, 0x12345678};
        for (int first : seeds) {
            HoseDynasty x = Bench.of("piece 1 0 0 0;piece 2 1 1 0;piece 3 2 2 0;", "burst 0;burst 1;burst 2;");
            seed = first;
            int piece = drawn(3);
            int step = drawn(4);
            int below = drawn(16);
            due("bursts by " + first, x.year(first, 1, 0, 3), step == 2 ? 4 : step == 3 ? 2 : 3);
            due("ROW by " + first + ", not lifted", x.year(first, 1, below, 1), step == 0 ? 1 << piece : 0);
            due("ROW by " + first + ", lifted", x.year(first, 1, below + 1, 1), 0);
        }
    }

    static void terms_year_whatCantBeDone() {
        HoseDynasty x = Bench.of("piece 1 0 1 0;", "lay 0;again 9[burst 0;];");
        HoseDynasty y = Bench.of("piece 1 0 1 0;");
        for (int first = 0; first < 30; first++) {
            seed = first;
            drawn(1);
            int step = drawn(4);
            due("bursts of 9 by " + first, x.year(first, 1, 0, 3), step == 3 ? 8 : 9);
            due("it lies there by " + first, x.year(first, 1, 0, 1), 1);
            due("bursts of none by " + first, y.year(first, 1, 16, 3), step == 2 ? 1 : 0);
            due("lifted, if it lies there, by " + first, y.year(first, 1, 16, 1), 0);
        }
    }

    static void terms_year_goesOnFromNow() {
        HoseDynasty x = Bench.of("piece 1 0 1 0;piece 1 1 2 0;piece 1 1 3 0;fire 0 60;fire 0 61;",
            "hope 61;hour;turn 2;lay 1;bend 1 3;again 9[burst 0;];again 9[burst 1;];again 9[burst 2;];", "hope 99;hour;hope 0;");
        Bench.law(x, "flow + 10 * piece + bends + turned");
        for (int first = 0; first < 40; first++) {
            seed = first;
            drawn(3);
            int step = drawn(4);
            due("the ROW by " + first, x.year(first, 1, 0, 1), 2);
            due("it ARRIVES by " + first, x.year(first, 1, 0, 2), 13);
            due("bursts by " + first, x.year(first, 1, 0, 3), step == 3 ? 26 : 27);
            due("out in HOUR 0, to HOUR 8, by " + first, x.span(first, 1, 7, 16, 2, 0), 1);
            due("it burns again in HOUR 9 by " + first, x.span(first, 1, 8, 16, 2, 0), 0);
        }
        HoseDynasty turned = Bench.of("piece 1 0 1 0;piece 1 2 1 0;", "turn 1;lay 0;");
        for (int first = 0; first < 40; first++) {
            seed = first;
            boolean lays = drawn(2) == 1 & drawn(4) == 0;
            due("one that is turned now is laid by " + first, turned.year(first, 1, 0, 1), lays ? 3 : 1);
        }
    }

    static void terms_year_aTurnIsOfOneThatIsNotInTheRow() {
        HoseDynasty x = Bench.of("piece 9 0 1 0;fire 9 60;", "lay 0;");
        Bench.law(x, "60 - turned");
        for (int first = 0; first < 30; first++) {
            due("it ARRIVES by " + first, x.year(first, 1, 0, 2), 60);
            due("put out by " + first, x.year(first, 1, 0, 0), 1);
        }
    }

    public static void main(String[] args) {
        Bench.run(NightEdgesTest.class);
    }
}
