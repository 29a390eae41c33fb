import java.math.BigInteger;
import java.util.ArrayList;
import java.util.List;
import java.util.NoSuchElementException;
import java.util.concurrent.Callable;

/** The edges of logs, mends, draws, the image, and of what is thrown (Terms, part 3, and promises 23 to 28). */
public final class LogBoundariesTest {
    private static final Class<IllegalArgumentException> ARGUMENT = IllegalArgumentException.class;
    private static final Class<IllegalStateException> STATE = IllegalStateException.class;
    private static final Class<IndexOutOfBoundsException> INDEX = IndexOutOfBoundsException.class;
    private static final Class<NoSuchElementException> ELEMENT = NoSuchElementException.class;
    private static final Class<UnsupportedOperationException> UNSUPPORTED = UnsupportedOperationException.class;
    private static final int LEAST = Integer.MIN_VALUE;
    private static final int MOST = Integer.MAX_VALUE;
    private static final String SURE = "rally 0 0 won 100;rally 0 0 lost 0";
    private static final String DEAD_AT_5 = "rally 0 0 won 0;rally 0 0 lost 0;rally 0 0 dead 5 100";

    public static void main(String[] args) throws Exception {
        Boundary.runAll(LogBoundariesTest.class);
    }

    private static int log(ChaseCourt x, String text, int what) {
        Check.put(x, text);
        return x.log(what);
    }

    private static long mends(ChaseCourt x, String text, boolean ways, int[] goal) {
        Check.put(x, text);
        return x.mends(goal[0], goal[1], goal[2], goal[3], ways);
    }

    /** How few, and in how many ways. */
    private static void mends(ChaseCourt x, String text, String due, int... goal) {
        Check.same(text, mends(x, text, false, goal) + " " + mends(x, text, true, goal), due);
    }

    private static void noLog(String text) {
        ChaseCourt x = Check.courtOf("games 6");
        Check.fails("log '" + text + "'", ARGUMENT, () -> log(x, text, 0));
        Check.tapeHas("it is used up", x, 0);
        Check.fails("mends '" + text + "'", ARGUMENT, () -> mends(x, text, false, new int[4]));
        Check.tapeHas("it is used up", x, 0);
        Check.same("nothing changed", Check.all(x), Check.all(Check.courtOf("games 6")));
    }

    // ---- Terms: logs and mends ----

    @Boundary.Says("A LOG is told on the TAPE: of each RALLY two bytes: w (WON), l (LOST) or d (DEAD), and 48 and the LINE (of w and l: 48);")
    private static void terms3_twoBytesOfEachRally() {
        ChaseCourt x = Check.courtOf("games 6");
        Check.same("no rally", log(x, "", 0), 0);
        Check.same("won", log(x, "w0", 0) + " " + log(x, "w0", 1), "1 0");
        Check.same("lost", log(x, "l0", 0) + " " + log(x, "l0", 1), "0 1");
        Check.same("dead at 0", log(x, "d0", 3) + " " + log(x, "d0", 4), "1 0");
        Check.same("dead at 9", log(x, "d9", 3) + " " + log(x, "d9", 4), "1 9");
        String[] none = {"w", "w0l", "0", "w0l0d", "d/", "d:", "dd", "d ", "w1", "w9", "w/", "l1", "l/", "w ", "v0", "x0", "k0", "m0",
            "c0", "e0", "W0", "L0", "D0", "00", "  ", " w0", "w0 ", "w0 l0", "w0;l0"};
        for (String text : none) {
            noLog(text);
        }
        for (int sign : new int[] {0, 127, 128, 176, 255}) {
            noLog("d" + (char) sign);
            noLog((char) sign + "0");
            noLog("w0l0" + (char) sign + (char) sign);
        }
        // a byte of the alphabet with its highest bit
        noLog((char) ('w' + 128) + "0");
        noLog("w" + (char) ('0' + 128));
    }

    @Boundary.Says({"at most 30;", "from the SCORE now on (nothing stays): what comes."})
    private static void terms3_atMost30RalliesOfALog() {
        ChaseCourt x = Check.courtOf("games 6");
        Check.same("20 rallies are 5 games", log(x, "w0".repeat(20), 7), 5);
        String thirty = "w0".repeat(20) + "l0".repeat(10);
        Check.same("30 rallies", log(x, thirty, 7) + " " + log(x, thirty, 8) + " " + log(x, thirty, 1), "5 2 2");
        noLog(thirty + "l0");
        noLog(thirty + "l");
        noLog("d5".repeat(200));
        x.score(3, 0, 1);
        x.games(0, 5);
        x.rally(2, 4);
        String before = Check.all(x);
        // 0 serves since the chase: at 3 it is PLAYER 1's point, at 5 PLAYER 0's game
        Check.same("rallies behind a chase that was played off", log(x, "d4d5d6d5d3", 0) + " " + log(x, "d4d5d6d5d3", 1), "3 2");
        Check.same("from the score now on", log(x, "d3", 1) + " " + log(x, "d3", 6) + " " + log(x, "d5", 7), "1 0 1");
        Check.same("nothing stays", Check.all(x), before);
    }

    @Boundary.Says("MENDS: how few of the RALLIES with d, by which a CHASE was played off, must have been called otherwise (as better, worse, or the same), so that POINTS and GAMES at the end are as told")
    private static void terms3_howFewWereCalledOtherwise() {
        ChaseCourt x = Check.courtOf("games 6;club 1");
        mends(x, "", "0 1", 0, 0, 0, 0);
        mends(x, "w0l0", "0 1", 1, 1, 0, 0);
        mends(x, "w0l0", "-1 0", 2, 0, 0, 0);
        // a chase at 5, called worse: PLAYER 1's, who serves then
        mends(x, "d5d6", "0 1", 0, 1, 0, 0);
        mends(x, "d5d6", "1 1", 1, 0, 0, 0);
        mends(x, "d5d6", "1 1", 0, 0, 0, 0);
        mends(x, "d5d6", "-1 0", 1, 1, 0, 0);
        // at lines where none is better, or worse: the call may be wrong all the same
        mends(x, "d0d0", "1 1", 1, 0, 0, 0);
        mends(x, "d9d9", "1 1", 0, 1, 0, 0);
        x.score(0, 3, 0);
        x.games(1, 4);
        mends(x, "d5d4", "0 1", 1, 3, 1, 4);
        mends(x, "d5d4", "1 1", 0, 0, 1, 5);
        mends(x, "d5d4d5d6", "0 1", 2, 3, 1, 4);
        mends(x, "d5d4d5d6", "1 1", 1, 0, 1, 5);
        mends(x, "d5d4d5d6", "1 1", 0, 0, 1, 5);
        x.score(0, 0, 0);
        x.games(0, 0);
        // a chase that is made, and one that is won or lost, were not called
        mends(x, "d5", "-1 0", 1, 0, 0, 0);
        mends(x, "d5w0", "-1 0", 1, 0, 0, 0);
        mends(x, "d5l0", "-1 0", 0, 1, 0, 0);
    }

    @Boundary.Says("in how many ways so few are (each RALLY otherwise in one of two ways; a RALLY plays a CHASE off by what comes of those ahead of it); none.")
    private static void terms3_inHowManyWays() {
        ChaseCourt x = Check.courtOf("games 6");
        // both are PLAYER 1's; one of the two was the same
        mends(x, "d5d5d6d6", "1 2", 0, 1, 0, 0);
        // one was better, one the same
        mends(x, "d5d5d6d6", "2 2", 1, 0, 0, 0);
        mends(x, "d5d5d6d6", "2 1", 2, 0, 0, 0);
        Check.court(x, "even 1");
        // both are PLAYER 0's; by even 1 one of the two as worse, or as the same
        mends(x, "d5d5d4d4", "1 4", 1, 1, 0, 0);
        mends(x, "d5d5d4d4", "2 4", 0, 2, 0, 0);
        // called the same: as worse it is PLAYER 1's too, but that is not so few
        mends(x, "d5d5d5d5", "0 1", 0, 2, 0, 0);
        Check.court(x, "even 0");
        x.score(2, 0, 0);
        // both are PLAYER 0's, and the game: what comes behind it are chases of the next one
        mends(x, "d5d5d4d4", "0 1", 0, 0, 1, 0);
        mends(x, "d5d5d4d4d6", "0 1", 0, 0, 1, 0);
        mends(x, "d5d5d4d4d6d7", "0 1", 0, 0, 1, 0);
        // one of each: 3 1, so that the chase at 6 is played off at once, from the other end
        mends(x, "d5d5d6d4d6d6", "0 1", 3, 1, 0, 0);
        // PLAYER 0's game by the first as better (then the last one makes a chase), or by the last as worse
        mends(x, "d5d5d6d4d6d6", "1 2", 0, 0, 1, 0);
    }

    @Boundary.Says("(no RALLY comes when the SET is over);")
    private static void terms3_noRallyComesWhenTheSetIsOver() {
        ChaseCourt x = Check.courtOf("games 1");
        x.score(3, 0, 0);
        // 1 serves; as better the set is PLAYER 0's, and no rally may come then
        mends(x, "d5d6", "0 1", 3, 1, 0, 0);
        mends(x, "d5d6", "1 1", 0, 0, 1, 0);
        mends(x, "d5d6w0", "-1 0", 0, 0, 1, 0);
        mends(x, "d5d4", "0 1", 0, 0, 1, 0);
        mends(x, "d5d4w0", "-1 0", 0, 0, 1, 0);
        mends(x, "d5d4w0", "1 1", 3, 2, 0, 0);
        x.games(1, 0);
        mends(x, "", "0 1", 3, 0, 1, 0);
        mends(x, "w0", "-1 0", 3, 0, 1, 0);
        mends(x, "w0", "-1 0", 0, 0, 2, 0);
        x.games(6, 6);
        mends(x, "", "0 1", 3, 0, 6, 6);
        mends(x, "d0", "-1 0", 3, 0, 6, 6);
    }

    // ---- Terms: draws ----

    /** The draw behind a seed, by numbers without bounds. */
    private static int draw(int seed) {
        BigInteger next = BigInteger.valueOf(seed).multiply(BigInteger.valueOf(1103515245)).add(BigInteger.valueOf(12345));
        return next.shiftRight(16).and(BigInteger.valueOf(32767)).intValue() % 100;
    }

    private static int seedOf(int draw, int from) {
        int seed = from;
        while (draw(seed) != draw) {
            seed++;
        }
        return seed;
    }

    @Boundary.Says({"DRAW: SEED is 1103515245 times SEED and 12345, as an int that goes round; bits 16 to 30 modulo 100: below WON that; else below WON and LOST that;",
        "else DEAD, at LINE 0, if it is below that with its chance, .."})
    private static void terms3_eachDraw() {
        StringBuilder text = new StringBuilder("rally 0 0 won 11;rally 0 0 lost 9");
        for (int line = 0; line < 10; line++) {
            text.append(";rally 0 0 dead ").append(line).append(line % 3 == 1 ? " 0" : line == 9 ? " 20" : " 10");
        }
        int[] lines = {0, 2, 3, 5, 6, 8, 9, 9};
        for (int from : new int[] {1, LEAST, -5000, MOST - 70000}) {
            ChaseCourt x = Check.courtOf(text.toString());
            for (int draw = 0; draw < 100; draw++) {
                int seed = seedOf(draw, from);
                String due = draw < 11 ? "1 0 -1" : draw < 20 ? "0 1 -1" : "0 0 " + lines[(draw - 20) / 10];
                Check.same("draw " + draw + " by seed " + seed, x.play(seed, 1, 0) + " " + x.play(seed, 1, 1) + " " + x.play(seed, 1, 4), due);
            }
        }
    }

    @Boundary.Says("SEED is 1103515245 times SEED and 12345, as an int that goes round;")
    private static void terms3_theSeedGoesOn() {
        for (int seed : new int[] {0, 1, -1, LEAST, MOST, 123456789}) {
            ChaseCourt x = Check.courtOf("games 6");
            int first = 0;
            int second = 0;
            int next = seed;
            for (int n = 1; n <= 3; n++) {
                int draw = draw(next);
                next = BigInteger.valueOf(next).multiply(BigInteger.valueOf(1103515245)).add(BigInteger.valueOf(12345)).intValue();
                first += draw < 50 ? 1 : 0;
                second += draw < 50 ? 0 : 1;
                Check.same(n + " draws by seed " + seed, x.play(seed, n, 0) + " " + x.play(seed, n, 1), first + " " + second);
            }
        }
        // 1 is followed by 1103527590, of which bits 16 to 30 are 16838
        Check.same("the draw of 1", draw(1), 38);
        // 0 is followed by 12345, of which they are 0
        Check.same("the draw of 0", draw(0), 0);
    }

    @Boundary.Says({"PLAYED by a SEED, so many RALLIES (0 to 200):", "(nothing stays; it ends when somebody has GAMES of a SET)."})
    private static void terms3_playedAtMost200Rallies() {
        ChaseCourt x = Check.courtOf(DEAD_AT_5);
        Check.same("none", x.play(7, 0, 10), 0);
        Check.same("200 that never end", x.play(7, 200, 10), 200);
        // two chases are made, both are played off at the same line: ends are changed once by four rallies
        Check.same("199: one chase is left to play off", x.play(7, 199, 3) + " " + x.play(7, 199, 2) + " " + x.play(7, 199, 6), "1 0 1");
        Check.same("200: none", x.play(7, 200, 3) + " " + x.play(7, 200, 2) + " " + x.play(7, 200, 6), "0 0 0");
        ChaseCourt y = Check.courtOf(SURE + ";games 6");
        Check.same("six games", y.play(7, 200, 10) + " " + y.play(7, 24, 10) + " " + y.play(7, 23, 10), "24 24 23");
        Check.same("games", y.play(7, 200, 7) + " " + y.play(7, 23, 7), "6 5");
        Check.same("nothing stays", Check.stands(y), "0 0 0 0 -1 -1 0 0 0 0");
        y.games(5, 0);
        Check.same("one more game", y.play(7, 200, 10), 4);
        y.games(6, 0);
        Check.same("it is over", y.play(7, 200, 10) + " " + y.play(7, 200, 7), "0 6");
        y.games(0, 6);
        Check.same("the other has it", y.play(7, 200, 10) + " " + y.play(7, 200, 8), "0 6");
    }

    // ---- Terms: the image, and what is thrown ----

    @Boundary.Says("THE IMAGE (one) of all may be kept, and gone back to (but for the TAPE, fault() and THE IMAGE itself).")
    private static void terms3_oneImageOfAll() {
        ChaseCourt x = told();
        String first = Check.all(x);
        x.image();
        Check.court(x, "games 1;club 0;even 0;rally 0 0 won 50;rally 0 0 lost 50;rally 0 0 dead 4 0");
        Check.rule(x, "style 0");
        x.plays(0, 2);
        x.plays(1, 2);
        x.games(0, 0);
        x.begin(0, 0);
        x.score(0, 0, 1);
        Check.same("back", x.back(), true);
        Check.same("all is as it was", Check.all(x), first);
        x.games(0, 0);
        Check.same("back once more", x.back() + " " + Check.all(x), "true " + first);
        x.games(0, 0);
        String second = Check.all(x);
        x.image();
        x.games(1, 1);
        Check.same("one image: the later", x.back() + " " + Check.all(x), "true " + second);
    }

    @Boundary.Says("(but for the TAPE, fault() and THE IMAGE itself)")
    private static void terms3_theTapeAndFaultAreNotOfTheImage() {
        ChaseCourt x = new ChaseCourt();
        Check.fails("wrong", ARGUMENT, () -> Check.court(x, "club 3"));
        x.image();
        Check.fails("wrong", ARGUMENT, () -> Check.rule(x, "?"));
        Check.put(x, "club 2");
        x.back();
        Check.same("fault() is of the latest text", x.fault(), 0);
        Check.tapeHas("the tape stays", x, 6);
        Check.same("and is read", x.court() + " " + x.count(3), "1 2");
        Check.put(x, "club 1");
        x.image();
        x.end(0);
        x.back();
        Check.tapeHas("what is gone stays gone", x, 0);
        Check.same("the image is there still", x.back(), true);
    }

    /** An object to which all is told: nothing of it is as at first. */
    private static ChaseCourt told() {
        ChaseCourt x = Check.courtOf("games 4;club 2;even 1;rally 0 0 won 40;rally 0 0 lost 50;rally 0 0 dead 4 10");
        Check.rule(x, "style 2 if serving;style 1");
        Check.rule(x, "style 3");
        x.plays(0, 1);
        x.plays(1, 0);
        x.begin(2, 1);
        x.games(1, 2);
        x.score(1, -1, 1);
        x.rally(2, 6);
        return x;
    }

    private static void leaves(String what, Class<? extends RuntimeException> due, boolean over, java.util.function.Function<ChaseCourt, Object> call) {
        ChaseCourt x = told();
        if (over) {
            x.games(4, 0);
        }
        x.image();
        Check.put(x, "club 1");
        Check.refused(what, x, due, () -> call.apply(x));
        Check.tapeHas(what + " leaves the tape", x, 6);
        Check.same(what + " leaves what is on it", x.court() + " " + x.count(3), "2 1");
        Check.same(what + " leaves the image", x.back() + " " + x.count(3), "true 2");
    }

    private static Object done(Runnable call) {
        call.run();
        return "nothing thrown";
    }

    @Boundary.Says("a call that throws changes nothing but the TAPE, where it is used up.")
    private static void terms3_aCallThatThrowsChangesNothing() {
        leaves("look, style", INDEX, false, x -> x.look(4, 0, 0));
        leaves("look, what", ELEMENT, false, x -> x.look(0, 0, 12));
        leaves("plays, player", INDEX, false, x -> x.plays(2, -1));
        leaves("plays, rule", INDEX, false, x -> x.plays(0, 2));
        leaves("style", INDEX, false, x -> x.style(2));
        leaves("score, player", INDEX, false, x -> done(() -> x.score(0, 0, 2)));
        leaves("score, points", ARGUMENT, false, x -> done(() -> x.score(3, 5, 0)));
        leaves("games", ARGUMENT, false, x -> done(() -> x.games(3, 7)));
        leaves("begin", ARGUMENT, false, x -> done(() -> x.begin(3, 4)));
        leaves("stands", ELEMENT, false, x -> x.stands(10));
        leaves("rally, line", INDEX, false, x -> x.rally(2, 10));
        leaves("rally, how", ARGUMENT, false, x -> x.rally(3, 0));
        leaves("rally, over", STATE, true, x -> x.rally(2, 0));
        leaves("bisque, player", INDEX, false, x -> x.bisque(2));
        leaves("bisque, over", STATE, true, x -> x.bisque(0));
        leaves("chance", STATE, true, x -> x.chance(0, 30));
        leaves("best", STATE, true, x -> x.best(0, 30, true));
        leaves("saves", STATE, true, x -> x.saves(0, 30, 0));
        leaves("saves, what", ELEMENT, false, x -> x.saves(0, 30, 3));
        leaves("worth", STATE, true, x -> x.worth(0, 0, 30));
        leaves("set", STATE, true, x -> x.set(0, 30));
        leaves("ways", ARGUMENT, false, x -> x.ways(0, 0, 0, 31));
        leaves("even", ARGUMENT, false, x -> x.even(30, 500001));
        leaves("play, rallies", ARGUMENT, false, x -> x.play(1, 201, 0));
        leaves("play, what", ELEMENT, false, x -> x.play(1, 200, 11));
    }

    private static void usesUp(String what, Class<? extends RuntimeException> due, ChaseCourt x, String text, Callable<Object> call) {
        x.image();
        Check.put(x, text);
        Check.refused(what, x, due, call);
        Check.tapeHas(what + " uses the tape up", x, 0);
        String now = Check.all(x);
        Check.same(what + " leaves the image", x.back() + " " + Check.all(x), "true " + now);
    }

    @Boundary.Says("a call that throws changes nothing but the TAPE, where it is used up.")
    private static void terms3_aCallThatThrowsUsesTheTapeUp() {
        ChaseCourt log = told();
        usesUp("log, none", ARGUMENT, log, "w0l0w1", () -> log.log(0));
        usesUp("log, what", ELEMENT, log, "w0l0", () -> log.log(10));
        ChaseCourt over = told();
        over.games(4, 0);
        usesUp("log, over", STATE, over, "w0l0", () -> over.log(0));
        ChaseCourt mends = told();
        usesUp("mends", ARGUMENT, mends, "w0l0w1", () -> mends.mends(0, 0, 0, 0, true));
        ChaseCourt full = told();
        while (full.count(1) < 6) {
            Check.rule(full, "style 1");
        }
        usesUp("rule", UNSUPPORTED, full, "style 3", full::rule);
        for (int n = 1; n < 12; n++) {
            Check.court(full, "");
        }
        usesUp("court", UNSUPPORTED, full, "club 0", full::court);
    }

    @Boundary.Says("Of several exceptions the one told first is thrown;")
    private static void terms3_theOneToldFirst() {
        ChaseCourt x = new ChaseCourt();
        x.games(1, 1);
        Check.fails("look", INDEX, () -> x.look(4, 4, 12));
        Check.fails("score", INDEX, () -> x.score(9, 9, 9));
        Check.fails("rally, line", INDEX, () -> x.rally(2, -1));
        Check.fails("rally, how", ARGUMENT, () -> x.rally(-1, -1));
        Check.fails("bisque", INDEX, () -> x.bisque(9));
        Check.fails("chance", INDEX, () -> x.chance(9, 99));
        Check.fails("chance, rallies", ARGUMENT, () -> x.chance(0, 99));
        Check.fails("best", INDEX, () -> x.best(9, 99, true));
        Check.fails("best, rallies", ARGUMENT, () -> x.best(0, 99, true));
        Check.fails("saves", INDEX, () -> x.saves(9, 99, 9));
        Check.fails("saves, rallies", ARGUMENT, () -> x.saves(0, 99, 9));
        Check.fails("saves, over", STATE, () -> x.saves(0, 30, 9));
        Check.fails("worth", INDEX, () -> x.worth(0, 99, 99));
        Check.fails("worth, rallies", ARGUMENT, () -> x.worth(0, 9, 99));
        Check.fails("set", INDEX, () -> x.set(9, 99));
        Check.fails("set, rallies", ARGUMENT, () -> x.set(0, 99));
        Check.fails("ways", INDEX, () -> x.ways(0, 0, 9, 99));
        Check.fails("log", ARGUMENT, () -> log(x, "w1", 99));
        Check.fails("log, over", STATE, () -> log(x, "w0", 99));
        Check.fails("log, what", ELEMENT, () -> log(x, "", 99));
        Check.fails("play", ARGUMENT, () -> x.play(0, 999, 99));
    }

    @Boundary.Says("IndexOutOfBoundsException: there is no such PLAYER, STYLE, LINE, RULE.")
    private static void terms3_noSuchPlayerStyleLineRule() {
        ChaseCourt x = new ChaseCourt();
        Check.rule(x, "style 1");
        for (int none : new int[] {-2, 10, LEAST, MOST}) {
            Check.fails("player", INDEX, () -> x.style(none));
            Check.fails("style", INDEX, () -> x.look(none, 0, 0));
            Check.fails("line", INDEX, () -> x.rally(2, none));
            Check.fails("rule", INDEX, () -> x.plays(0, none));
        }
        Check.fails("player 2", INDEX, () -> x.style(2));
        Check.fails("style 4", INDEX, () -> x.look(0, 4, 0));
        Check.fails("rule 1 of one", INDEX, () -> x.plays(0, 1));
        Check.same("the last of each", x.style(1) + " " + x.look(3, 3, 0) + " " + x.rally(2, 9) + " " + x.plays(1, 0), "0 50 0 -1");
    }

    private static List<String> throwing(ChaseCourt x) {
        List<Callable<Object>> calls = new ArrayList<>();
        calls.add(() -> x.chance(0, 1));
        calls.add(() -> x.best(0, 1, false));
        calls.add(() -> x.saves(0, 1, 0));
        calls.add(() -> x.worth(0, 0, 1));
        calls.add(() -> x.set(0, 1));
        calls.add(() -> log(x, "w0", 0));
        calls.add(() -> x.rally(0, 0));
        calls.add(() -> x.bisque(0));
        List<String> thrown = new ArrayList<>();
        for (int n = 0; n < calls.size(); n++) {
            try {
                calls.get(n).call();
            } catch (IllegalStateException e) {
                thrown.add("" + n);
            } catch (Exception e) {
                thrown.add(e.toString());
            }
        }
        return thrown;
    }

    @Boundary.Says("IllegalStateException: the SET is over (somebody has GAMES of it).")
    private static void terms3_theSetIsOver() {
        for (int enough = 1; enough <= 6; enough++) {
            ChaseCourt x = Check.courtOf("games " + enough);
            x.games(enough - 1, enough - 1);
            Check.same("one less of both", throwing(x), "[]");
            x.games(enough, 0);
            Check.same("the first has them", throwing(x), "[0, 1, 2, 3, 4, 5, 6, 7]");
            x.games(0, enough);
            Check.same("the second has them", throwing(x), "[0, 1, 2, 3, 4, 5, 6, 7]");
            x.games(6, 6);
            Check.same("both have more", throwing(x), "[0, 1, 2, 3, 4, 5, 6, 7]");
        }
        ChaseCourt y = Check.courtOf("games 2");
        y.games(2, 0);
        Check.court(y, "games 3");
        Check.same("a text may let it go on", throwing(y), "[]");
        Check.court(y, "games 1");
        Check.same("or end it", throwing(y).size(), 8);
    }

    // ---- Promises 23 to 28 ----

    @Boundary.Says({"Uses the TAPE up: a LOG: what comes, what as of stands().",
        "IllegalArgumentException: it is no LOG; IllegalStateException: the SET is over ahead of one of its RALLIES; NoSuchElementException: another what."})
    private static void promise23_log() {
        ChaseCourt x = Check.courtOf("games 2");
        StringBuilder all = new StringBuilder();
        for (int what = 0; what < 10; what++) {
            all.append(' ').append(log(x, "w0w0w0w0l0l0l0d5", what));
        }
        Check.same("each what", all, " 0 3 1 1 5 -1 1 1 0 1");
        Check.tapeHas("it is used up", x, 0);
        for (int what : new int[] {-1, 10, LEAST, MOST}) {
            Check.fails("what " + what, ELEMENT, () -> log(x, "w0", what));
            Check.fails("what " + what + " of no rally", ELEMENT, () -> log(x, "", what));
            Check.fails("no log is told first", ARGUMENT, () -> log(x, "w", what));
        }
        x.games(1, 1);
        Check.same("over behind the last one", log(x, "w0w0w0w0", 7), 2);
        Check.fails("over ahead of one", STATE, () -> log(x, "w0w0w0w0d9", 7));
        Check.fails("over ahead of one is told ahead of what", STATE, () -> log(x, "w0w0w0w0w0", 10));
        Check.fails("no log is told first, though its wrong rally comes later", ARGUMENT, () -> log(x, "w0w0w0w0w0d:", 7));
        x.games(2, 0);
        Check.same("over, but no rally", log(x, "", 7), 2);
        Check.fails("over ahead of the first", STATE, () -> log(x, "l0", 7));
        Check.same("nothing stays", Check.stands(x), "0 0 0 0 -1 -1 0 2 0 0");
    }

    @Boundary.Says("Uses the TAPE up: a LOG:")
    private static void promise23_fault() {
        ChaseCourt x = new ChaseCourt();
        Check.fails("wrong", ARGUMENT, () -> Check.court(x, "club 3"));
        Check.fails("no log", ARGUMENT, () -> log(x, "w", 0));
        Check.same("a log is no text", x.fault(), 5);
        log(x, "w0", 0);
        Check.same("a log is no text", x.fault(), 5);
    }

    @Boundary.Says({"Uses the TAPE up: MENDS of a LOG (ways false; NONE), or in how many ways: POINTS and GAMES at the end as told (any numbers).", "IllegalArgumentException: it is no LOG."})
    private static void promise24_mends() {
        ChaseCourt x = Check.courtOf("games 6;club 1");
        int[][] never = {{LEAST, 0, 0, 0}, {0, MOST, 0, 0}, {0, 0, -1, 0}, {0, 0, 0, 7}, {5, 5, 5, 5}, {0, 1, MOST, LEAST}};
        for (int[] goal : never) {
            mends(x, "d5d6", "-1 0", goal);
        }
        mends(x, "d5d6", "0 1", 0, 1, 0, 0);
        Check.tapeHas("it is used up", x, 0);
        String before = Check.all(x);
        // 15 chases, each called the same: none is anybody's point
        mends(x, "d5".repeat(30), "0 1", 0, 0, 0, 0);
        Check.same("nothing stays", Check.all(x), before);
        // one of 15 was better or worse. They are made by 0, 1, 0, ..: PLAYER 0 strikes in 8 of them, and serves in 7
        mends(x, "d5".repeat(30), "1 15", 1, 0, 0, 0);
        Check.fails("31 rallies", ARGUMENT, () -> mends(x, "d5".repeat(31), false, new int[4]));
        Check.tapeHas("it is used up", x, 0);
    }

    @Boundary.Says("MENDS of a LOG")
    private static void promise24_fromTheScoreNow() {
        ChaseCourt x = Check.courtOf("games 6");
        x.games(2, 3);
        x.begin(1, 2);
        x.score(3, 0, 0);
        x.rally(2, 4);
        mends(x, "d5", "0 1", 3, 1, 2, 3);
        mends(x, "d5", "1 1", -1, 2, 3, 3);
        mends(x, "d5", "1 1", 3, 0, 2, 3);
        mends(x, "", "0 1", 3, 0, 2, 3);
    }

    @Boundary.Says("PLAYED: what as of stands(), 10 how many RALLIES. IllegalArgumentException: so many are none; NoSuchElementException: another what.")
    private static void promise25_play() {
        ChaseCourt x = Check.courtOf(DEAD_AT_5 + ";games 3");
        x.games(1, 2);
        StringBuilder all = new StringBuilder();
        for (int what = 0; what <= 10; what++) {
            all.append(' ').append(x.play(1, 2, what));
        }
        Check.same("each what", all, " 0 0 1 2 5 5 1 1 2 0 2");
        for (int what : new int[] {-1, 11, LEAST, MOST}) {
            Check.refused("what " + what, x, ELEMENT, () -> x.play(1, 0, what));
        }
        for (int none : new int[] {-1, 201, LEAST, MOST}) {
            ChaseCourt y = new ChaseCourt();
            Check.refused("rallies " + none, y, ARGUMENT, () -> y.play(1, none, 0));
            Check.refused("rallies are told first", y, ARGUMENT, () -> y.play(1, none, 11));
        }
        ChaseCourt z = new ChaseCourt();
        z.games(1, 0);
        Check.same("no exception when the set is over", z.play(1, 200, 10), 0);
        Check.fails("but for another what", ELEMENT, () -> z.play(1, 200, 11));
    }

    @Boundary.Says("THE IMAGE is kept.")
    private static void promise26_image() {
        ChaseCourt x = new ChaseCourt();
        x.image();
        String first = Check.all(x);
        x.rally(0, 0);
        Check.same("back to the first moment", x.back() + " " + Check.all(x), "true " + first);
        ChaseCourt y = Check.courtOf("games 2");
        y.games(2, 0);
        y.image();
        y.games(0, 0);
        y.back();
        Check.fails("a set that is over is kept too", STATE, () -> y.rally(0, 0));
        y.image();
        y.image();
        Check.same("twice is once", y.back() + " " + y.back() + " " + y.stands(7), "true true 2");
    }

    @Boundary.Says("THE IMAGE is kept.")
    private static void promise26_whatComesLaterLeavesTheImageAlone() {
        ChaseCourt x = told();
        x.image();
        String kept = Check.all(x);
        for (int n = 0; n < 4; n++) {
            x.plays(n % 2, Check.rule(x, "style " + n));
            Check.court(x, "rally 0 0 won 49;rally 0 0 lost 41;even 0");
            x.rally(2, n);
        }
        x.back();
        Check.same("as it was kept", Check.all(x), kept);
        x.plays(0, -1);
        x.bisque(0);
        x.back();
        Check.same("also behind going back", Check.all(x), kept);
    }

    @Boundary.Says("One goes back to THE IMAGE: true; false, and nothing happens, if none was kept.")
    private static void promise27_back() {
        ChaseCourt x = told();
        Check.put(x, "club 1");
        String before = Check.all(x);
        Check.same("none was kept", x.back(), false);
        Check.same("nothing happens", Check.all(x), before);
        Check.tapeHas("nor to the tape", x, 6);
        x.image();
        x.score(0, 0, 0);
        Check.same("one was kept", x.back() + " " + Check.all(x), "true " + before);
    }

    @Boundary.Says("0 texts of THE COURT, 1 RULES, 2 GAMES of a SET, 3 club, 4 even, 5 OWED, 6 GIVEN. NONE for another what.")
    private static void promise28_count() {
        ChaseCourt x = new ChaseCourt();
        Check.same("at first", Check.counts(x), "0 0 1 0 0 0 0");
        for (int n = 0; n < 12; n++) {
            Check.court(x, "games 6;club 2;even 1");
            Check.rule(x, n < 6 ? "style 1" : "");
            if (n == 5) {
                x.begin(3, 2);
                Check.same("six of each", Check.counts(x), "6 6 6 2 1 3 2");
                break;
            }
        }
        for (int what : new int[] {-1, 7, LEAST, MOST}) {
            Check.same("what " + what, x.count(what), -1);
        }
        x.image();
        Check.same("an image counts nothing", Check.counts(x), "6 6 6 2 1 3 2");
        x.score(1, 1, 1);
        Check.same("nor a score", Check.counts(x), "6 6 6 2 1 3 2");
    }

    @Boundary.Says("An object is used for at most 512 calls after it has been made;")
    private static void object_theLastOf512Calls() {
        ChaseCourt x = new ChaseCourt();
        int first = x.chance(0, 30);
        for (int n = 2; n < 512; n++) {
            int answer = n % 4 == 0 ? x.chance(0, 30) : n % 4 == 1 ? x.best(0, 30, false) : n % 4 == 2 ? x.set(0, 30) : x.chance(1, 30);
            Check.same("call " + n, answer, first);
        }
        Check.same("the 512th", x.chance(0, 30), first);
        ChaseCourt y = new ChaseCourt();
        for (int n = 0; n < 511; n++) {
            y.feed(0, 0, 0, 0, 0);
        }
        Check.same("the 512th", y.end(400), true);
    }
}
