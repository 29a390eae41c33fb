import java.util.NoSuchElementException;

/** The edges of chances, the best styles, bisques, chases' worth, sets and handicaps (Terms, part 3, promises 16 to 22). */
public final class ChanceBoundariesTest {
    private static final Class<IllegalArgumentException> ARGUMENT = IllegalArgumentException.class;
    private static final Class<IllegalStateException> STATE = IllegalStateException.class;
    private static final Class<IndexOutOfBoundsException> INDEX = IndexOutOfBoundsException.class;
    private static final Class<NoSuchElementException> ELEMENT = NoSuchElementException.class;
    private static final int LEAST = Integer.MIN_VALUE;
    private static final int MOST = Integer.MAX_VALUE;
    private static final int WHOLE = 1000000000;
    private static final String SURE = "rally 0 0 won 100;rally 0 0 lost 0";
    private static final int[] NO_RALLIES = {-1, 31, LEAST, MOST};

    public static void main(String[] args) throws Exception {
        Boundary.runAll(ChanceBoundariesTest.class);
    }

    private static ChaseCourt at(String text, int first, int second, int server) {
        ChaseCourt x = Check.courtOf(text);
        x.score(first, second, server);
        return x;
    }

    // ---- Terms: chances ----

    @Boundary.Says("All chances are in billionths, and all that comes by chances: the sum by hundredths, by 100, rounded down.")
    private static void terms3_theSumIsRoundedDown() {
        String text = "rally 0 0 won 99;rally 0 0 lost 1";
        Check.same(".99 ^ 5 is 950990049.9", at(text, -1, -3, 0).chance(0, 5), 950990049);
        Check.same("each time: .99 ^ 6 is 941480149.4, but .99 of 950990049 is 941480148.5", at(text, -2, -3, 0).chance(0, 6), 941480148);
        Check.same("once more: 932065346.5", at(text, -3, -3, 0).chance(0, 7), 932065346);
        // 989996069.7 and 9994079.7: each by itself would be 999990148
        Check.same("the sum, not its parts", at(text, 1, -3, 0).chance(0, 5), 999990149);
    }

    @Boundary.Says("CHANCE of a PLAYER, from a SCORE, by so many RALLIES (0 to 30): that he wins this GAME: 0 by 0;")
    private static void terms3_chanceBy0To30() {
        ChaseCourt x = at(SURE, 3, 0, 0);
        Check.same("0 by 0, with the game a point away", x.chance(0, 0) + " " + x.chance(1, 0), "0 0");
        Check.same("by 1", x.chance(0, 1) + " " + x.chance(1, 1), WHOLE + " 0");
        Check.same("by 30", x.chance(0, 30) + " " + x.chance(1, 30), WHOLE + " 0");
        ChaseCourt y = at(SURE, -3, 3, 0);
        // to three all by 6, and two more
        Check.same("by 7", y.chance(0, 7), 0);
        Check.same("by 8", y.chance(0, 8), WHOLE);
        ChaseCourt z = at("", 3, 3, 0);
        Check.same("from three all two points decide: by 29", z.chance(0, 29), z.chance(0, 28));
        Check.same("by 30 there is more", z.chance(0, 30) > z.chance(0, 28), true);
    }

    @Boundary.Says({"else, by the STYLES that RULES take, what is to be had from the SCORE behind by one RALLY less",
        "(1000000000, if the GAME is his then, 0 if it is the other's)."})
    private static void terms3_chanceByTheStylesThatRulesTake() {
        ChaseCourt x = at(SURE + ";rally 1 0 won 0;rally 1 0 lost 100", 2, 0, 0);
        x.plays(0, Check.rule(x, "style 1 if mine > 5 and his < 5"));
        // 3 0, then two points are lost, then the game is won
        Check.same("by 3", x.chance(0, 3), 0);
        Check.same("by 4", x.chance(0, 4), WHOLE);
        x.plays(0, Check.rule(x, "style 1 if mine > 5 and his < 6"));
        // 3 0, then to three all, then both points
        Check.same("by 5", x.chance(0, 5), 0);
        Check.same("by 6", x.chance(0, 6), WHOLE);
        x.plays(0, Check.rule(x, "style 1 if mine > 5"));
        Check.same("he is lost at 3", x.chance(0, 30) + " " + x.chance(1, 30), "0 " + WHOLE);
        Check.same("5 rallies lose it", x.chance(1, 5) + " " + x.chance(1, 6), "0 " + WHOLE);
    }

    @Boundary.Says("what is to be had from the SCORE behind by one RALLY less")
    private static void terms3_chanceWhileChasesStandOrArePlayedOff() {
        String dead = "rally 0 0 won 0;rally 0 0 lost 0;club 2;games 6;rally 0 0 dead ";
        for (int line = 0; line < 10; line++) {
            ChaseCourt x = Check.courtOf(dead + line + " 100");
            for (int first = 0; first < 10; first++) {
                for (int second = 0; second < 10; second += 3) {
                    x.score(2, 1, 0);
                    x.rally(2, first);
                    x.rally(2, second);
                    // PLAYER 0 strikes: both chases are his, or not
                    boolean both = line < first && line < second;
                    Check.same(line + " against " + first + " and " + second, x.chance(0, 2) + " " + x.chance(0, 1), (both ? WHOLE : 0) + " 0");
                }
            }
        }
        for (int line = 0; line < 10; line++) {
            ChaseCourt x = at(dead + "5 100", 0, 3, 0);
            x.rally(2, line);
            // it stands: the next rally makes another one, then PLAYER 1 serves
            Check.same("one stands at " + line, x.chance(1, 1) + " " + x.chance(1, 2), "0 " + (5 > line ? WHOLE : 0));
            Check.same("the second is at 5: nobody's", x.chance(1, 3), 5 > line ? WHOLE : 0);
        }
    }

    @Boundary.Says("BEST: as CHANCE, but he takes, ahead of each RALLY, the STYLE by which it is the most, of several the least.")
    private static void terms3_bestOfSeveralTheLeast() {
        for (int server = 0; server < 2; server++) {
            ChaseCourt x = at("", 3, 0, server);
            Check.same("all the same", x.best(0, 1, true) + " " + x.best(0, 1, false), "0 500000000");
            for (int style = 3; style >= 1; style--) {
                String pair = server == 0 ? "rally " + style + " 0" : "rally 0 " + style;
                Check.court(x, server == 0 ? pair + " won 60;" + pair + " lost 40" : pair + " won 40;" + pair + " lost 60");
                Check.same("of those from " + style + " on", x.best(0, 1, true) + " " + x.best(0, 1, false), style + " 600000000");
                Check.same("CHANCE is by rules", x.chance(0, 1), 500000000);
            }
        }
        ChaseCourt y = new ChaseCourt();
        Check.same("nothing by any", y.best(0, 3, true) + " " + y.best(0, 3, false), "0 0");
    }

    @Boundary.Says("he takes, ahead of each RALLY, the STYLE by which it is the most")
    private static void terms3_bestAheadOfEachRally() {
        // style 1 wins as the server, style 2 as the striker; a chase changes ends
        ChaseCourt x = at("rally 1 0 won 100;rally 1 0 lost 0;rally 0 2 won 0;rally 0 2 lost 100;club 1", 0, 0, 0);
        Check.same("as server", x.best(0, 4, true) + " " + x.best(0, 4, false), "1 " + WHOLE);
        x.rally(2, 5);
        Check.same("as striker", x.best(0, 4, true) + " " + x.best(0, 4, false), "2 " + WHOLE);
        Check.same("fewer", x.best(0, 3, false), 0);
        x.plays(1, Check.rule(x, "style 3"));
        Check.same("the other by his rule", x.best(0, 4, true) + " " + x.best(0, 4, false), "0 " + x.chance(0, 4));
    }

    @Boundary.Says("he takes, ahead of each RALLY, the STYLE by which it is the most")
    private static void terms3_bestWhileAChaseIsPlayedOff() {
        String off = "rally 0 0 won 0;rally 0 0 lost 0;rally 0 0 dead 5 100;club 1";
        ChaseCourt x = Check.courtOf(off, "rally 0 1 won 0;rally 0 1 lost 0;rally 0 1 dead 9 60;rally 0 1 dead 0 40",
            "rally 0 2 won 0;rally 0 2 lost 0;rally 0 2 dead 9 55;rally 0 2 dead 0 45", "rally 0 3 won 54;rally 0 3 lost 46",
            "rally 1 0 won 0;rally 1 0 lost 0;rally 1 0 dead 6 60;rally 1 0 dead 4 40", "rally 3 0 won 0;rally 3 0 lost 39;rally 3 0 dead 9 61");
        x.score(3, 0, 0);
        x.rally(2, 5);
        Check.same("the striker loses it least", x.best(0, 1, true) + " " + x.best(0, 1, false), "3 460000000");
        x.score(3, 0, 1);
        x.rally(2, 5);
        Check.same("the server", x.best(0, 1, true) + " " + x.best(0, 1, false), "3 610000000");
        x.plays(1, Check.rule(x, "style 2"));
        Check.same("against 2 worse than 5 is his by style 0", x.best(0, 1, true) + " " + x.best(0, 1, false), "0 550000000");
        x.score(0, 3, 1);
        x.rally(2, 5);
        Check.same("of the other, who strikes: 0 serves by style 0", x.best(1, 1, true) + " " + x.best(1, 1, false), "3 460000000");
    }

    @Boundary.Says({"BISQUE: as CHANCE, but ahead of each RALLY (with 1 left at least) he may once take a BISQUE instead of going on: if it is more so",
        "(taking it then: 1000000000, if the GAME is his by it; else CHANCE from behind it, by as many RALLIES)."})
    private static void terms3_bisqueOnce() {
        ChaseCourt x = at("", 3, 0, 0);
        Check.same("with none left he takes none", x.saves(0, 0, 0) + " " + x.saves(0, 0, 1), "0 0");
        Check.same("with 1 left the game is his", x.saves(0, 1, 0) + " " + x.saves(0, 1, 1), WHOLE + " 1");
        x.score(2, 0, 0);
        // at once: a half; later: none is left
        Check.same("by as many rallies", x.saves(0, 1, 0) + " " + x.saves(0, 1, 1), "500000000 1");
        // at once: 3/4; going on: a half of 1, and a half of the half: as much is not more
        Check.same("as much is not more", x.saves(0, 2, 0) + " " + x.saves(0, 2, 1), "750000000 0");
        ChaseCourt y = at("rally 0 0 won 0;rally 0 0 lost 100", 2, 0, 0);
        Check.same("once alone", y.saves(0, 30, 0) + " " + y.saves(0, 30, 1), "0 0");
        y.score(3, 0, 0);
        Check.same("once is enough", y.saves(0, 1, 0) + " " + y.saves(0, 1, 1), WHOLE + " 1");
        Check.same("it is as good a rally later", y.saves(0, 2, 0) + " " + y.saves(0, 2, 1), WHOLE + " 0");
        ChaseCourt z = at(SURE, 3, 0, 0);
        Check.same("what is sure is not more by it", z.saves(0, 1, 0) + " " + z.saves(0, 1, 1) + " " + z.saves(0, 1, 2), WHOLE + " 0 0");
    }

    @Boundary.Says("(taking it then: 1000000000, if the GAME is his by it; else CHANCE from behind it, by as many RALLIES).")
    private static void terms3_bisqueChangesEnds() {
        // the striker wins all points: at 2 0 with a chase a bisque changes ends, and he becomes the striker
        ChaseCourt x = at("rally 0 0 won 0;rally 0 0 lost 100", 2, 0, 0);
        x.rally(2, 5);
        Check.same("CHANCE: ends are changed at 2 3, and three points more are his", x.chance(0, 5) + " " + x.chance(0, 6), "0 " + WHOLE);
        Check.same("by a bisque", x.saves(0, 1, 0) + " " + x.saves(0, 1, 1), WHOLE + " 1");
        ChaseCourt y = at("rally 0 0 won 0;rally 0 0 lost 100;club 2", 2, 0, 0);
        y.rally(2, 5);
        Check.same("by club 2 ends stay", y.saves(0, 30, 0) + " " + y.saves(0, 30, 1), "0 0");
    }

    @Boundary.Says({"WORTH of a CHASE at a LINE: CHANCE, if there were one more of that LINE now (as if by a RALLY that was DEAD), less CHANCE;",
        "none, if one is played off now."})
    private static void terms3_worthOfAChase() {
        ChaseCourt x = at(SURE, 3, 0, 0);
        Check.same("all is lost by it: ends are changed", x.worth(0, 9, 1) + " " + x.worth(1, 9, 1), -WHOLE + " 0");
        ChaseCourt y = at(SURE, 3, 0, 1);
        Check.same("all is had by it", y.worth(0, 0, 1) + " " + y.worth(1, 0, 1), WHOLE + " 0");
        Check.same("by 0", y.worth(0, 0, 0), 0);
        ChaseCourt z = at(SURE + ";club 2", 0, 0, 0);
        Check.same("one that stands is worth nothing here", z.worth(0, 4, 4), 0);
        z.rally(2, 4);
        Check.same("the second one changes ends", z.worth(0, 4, 4) + " " + z.worth(1, 4, 4), -WHOLE + " " + WHOLE);
        z.rally(2, 4);
        Check.same("two are played off", z.worth(0, 4, 4), -2000000000);
        z.rally(0, 4);
        Check.same("one is played off", z.worth(0, 4, 0), -2000000000);
        z.rally(0, 4);
        Check.same("none is", z.worth(0, 4, 0), 0);
    }

    // ---- Terms: sets and handicaps ----

    /** SET from the ways of whole games alone (server, winner, then): the game that is now begins now. */
    private static long set(long[] ways, int player, int[] games, int server, int enough) {
        if (games[player] >= enough) {
            return WHOLE;
        }
        if (games[1 - player] >= enough) {
            return 0;
        }
        long sum = 0;
        for (int winner = 0; winner < 2; winner++) {
            for (int then = 0; then < 2; then++) {
                int[] behind = games.clone();
                behind[winner]++;
                long chance = ways[server * 4 + winner * 2 + then];
                sum += chance == 0 ? 0 : chance * set(ways, player, behind, then, enough) / WHOLE;
            }
        }
        return sum;
    }

    private static long[] waysOf(ChaseCourt x, int rallies) {
        long[] ways = new long[8];
        for (int n = 0; n < 8; n++) {
            ways[n] = x.ways(n / 4, n / 2 % 2, n % 2, rallies);
        }
        return ways;
    }

    @Boundary.Says({"SET: by so many RALLIES for each GAME: a GAME ends in four ways (who wins it; who is at END 0 then): the chance of each from BEGIN, by who is at END 0, as CHANCE;",
        "That a PLAYER wins the SET: 1000000000, if he has GAMES enough, 0 if the other has; else the sum over the four ways: their chance times that behind, by 1000000000, each rounded down."})
    private static void terms3_setByTheFourWays() {
        String[] texts = {"games 2;rally 0 0 won 33;rally 0 0 lost 37;rally 0 0 dead 3 13;rally 0 0 dead 7 17",
            "games 1;rally 0 0 won 47;rally 0 0 lost 53", "games 3;club 1;even 1;rally 0 0 won 21;rally 0 0 lost 20;rally 0 0 dead 4 59",
            "games 6;rally 0 0 won 51;rally 0 0 lost 49", "games 6;club 2;rally 0 0 won 31;rally 0 0 lost 29;rally 0 0 dead 0 40"};
        int[][] games = {{0, 0}, {3, 4}, {5, 3}, {4, 5}, {2, 3}, {0, 2}, {1, 0}};
        for (String text : texts) {
            for (int n = 0; n < 2 * games.length; n++) {
                int[] now = games[n / 2];
                ChaseCourt x = at(text, -1, 1, n % 2);
                x.begin(1, 1);
                // from far off there are too many ways to go through one by one
                if (Math.max(now[0], now[1]) < x.count(2) && x.count(2) - Math.max(now[0], now[1]) <= 3) {
                    x.games(now[0], now[1]);
                    long[] ways = waysOf(x, 11);
                    Check.same("set", x.set(0, 11), set(ways, 0, now, n % 2, x.count(2)));
                    Check.same("set of the other", x.set(1, 11), set(ways, 1, now, n % 2, x.count(2)));
                }
            }
        }
    }

    @Boundary.Says("of a GAME that is now from the SCORE now.")
    private static void terms3_setFromTheScoreNow() {
        ChaseCourt x = at(SURE + ";games 2", 3, 0, 0);
        x.games(1, 1);
        Check.same("by 1: the game that is now", x.set(0, 1), WHOLE);
        x.games(0, 1);
        Check.same("by 1: another game behind it", x.set(0, 1), 0);
        Check.same("by 3: not a whole game", x.set(0, 3), 0);
        Check.same("by 4: a whole game", x.set(0, 4), WHOLE);
        x.begin(3, 0);
        Check.same("by 4 from BEGIN", x.set(0, 6) + " " + x.set(0, 7), "0 " + WHOLE);
        x.score(3, 0, 1);
        Check.same("the other serves on", x.set(0, 30) + " " + x.set(1, 30), "0 " + WHOLE);
        x.score(3, 0, 1);
        x.rally(2, 5);
        Check.same("a chase changes ends now, and for the games behind", x.set(0, 7) + " " + x.set(0, 6), WHOLE + " 0");
    }

    @Boundary.Says("(In all of it RULES are asked by GAMES as they are now.)")
    private static void terms3_rulesAreAskedByGamesNow() {
        ChaseCourt x = Check.courtOf(SURE + ";rally 1 0 won 0;rally 1 0 lost 100;games 6");
        x.plays(0, Check.rule(x, "style 1 if games > 0"));
        Check.same("none now: he wins them all", x.set(0, 4) + " " + x.chance(0, 4) + " " + x.ways(0, 0, 0, 4), WHOLE + " " + WHOLE + " " + WHOLE);
        Check.same("but they are asked by games then when it is played", x.play(1, 200, 7) + " " + x.play(1, 200, 8), "1 6");
        x.games(1, 0);
        Check.same("one now: he loses them all", x.set(0, 4) + " " + x.set(1, 4) + " " + x.ways(0, 0, 0, 4), "0 " + WHOLE + " 0");
    }

    /** Even from these handicaps alone: a point by a half there, then all is won or lost; sure from all others. */
    private static ChaseCourt evenFrom(int... handicaps) {
        ChaseCourt x = Check.courtOf("rally 2 0 won 100;rally 2 0 lost 0;rally 3 0 won 0;rally 3 0 lost 100");
        StringBuilder rule = new StringBuilder();
        for (int h : handicaps) {
            // a rule has no number below 0
            String owed = h / 10 == 3 ? "mine<1" : "mine>" + (2 - h / 10) + " and mine<" + (4 - h / 10);
            rule.append("style 1 if ").append(owed).append(" and his>").append(2 + h % 10).append(" and his<").append(4 + h % 10);
            rule.append(";style 3 if ").append(owed).append(" and his>").append(3 + h % 10).append(';');
        }
        x.plays(0, Check.rule(x, rule + "style 2"));
        return x;
    }

    @Boundary.Says({"HANDICAPS: PLAYER 0 begins with 0 less OWED (0 to 3), PLAYER 1 with GIVEN (0 to 3):", "10 times OWED and GIVEN; none."})
    private static void terms3_eachHandicap() {
        for (int owed = 0; owed <= 3; owed++) {
            for (int given = 0; given <= 3; given++) {
                ChaseCourt x = evenFrom(10 * owed + given);
                Check.same("the only one", x.even(30, 0), 10 * owed + given);
                Check.same("none by 0", x.even(0, 0), -1);
            }
        }
    }

    @Boundary.Says("EVEN by so many RALLIES: by OWED and GIVEN together, then by GIVEN, the first")
    private static void terms3_evenByOwedAndGivenTogetherThenByGiven() {
        Check.same("0 is the first", new ChaseCourt().even(30, 500000), 0);
        Check.same("10 ahead of 1", evenFrom(1, 10).even(30, 0), 10);
        Check.same("1 ahead of 20", evenFrom(20, 1).even(30, 0), 1);
        Check.same("20 ahead of 11 and 2", evenFrom(2, 11, 20).even(30, 0), 20);
        Check.same("11 ahead of 2", evenFrom(2, 11).even(30, 0), 11);
        Check.same("2 ahead of 30", evenFrom(30, 2).even(30, 0), 2);
        Check.same("30 ahead of 21, 12 and 3", evenFrom(3, 12, 21).even(30, 0) + " " + evenFrom(3, 30).even(30, 0), "21 30");
        Check.same("3 ahead of 31", evenFrom(31, 3).even(30, 0), 3);
        Check.same("13 ahead of 32", evenFrom(32, 13).even(30, 0), 13);
    }

    @Boundary.Says("by which CHANCE of PLAYER 0 (from there, without CHASES, who is at END 0 as now, GAMES as now) is not farther from 500000000 than so many millionths (0 to 500000):")
    private static void terms3_notFartherThanSoManyMillionths() {
        // .84 ^ 4 is 497871360: 2128.64 millionths away; from all others it is less
        ChaseCourt x = Check.courtOf("rally 0 0 won 84;rally 0 0 lost 16;rally 3 0 won 0;rally 3 0 lost 100");
        x.plays(0, Check.rule(x, "style 3 if his > 3"));
        Check.same("farther", x.even(30, 2128), -1);
        Check.same("not farther", x.even(30, 2129), 0);
        Check.same("of PLAYER 0, by 4 and by 3", x.even(4, 2129) + " " + x.even(3, 499999), "0 -1");
        ChaseCourt y = evenFrom(0);
        Check.court(y, "rally 1 0 won 60;rally 1 0 lost 40");
        Check.same("above: just as far", y.even(30, 100000) + " " + y.even(30, 99999), "0 -1");
        Check.court(y, "rally 1 0 won 40;rally 1 0 lost 60");
        Check.same("below: just as far", y.even(30, 100000) + " " + y.even(30, 99999), "0 -1");
        ChaseCourt z = Check.courtOf(SURE);
        Check.same("a sure one", z.even(30, 500000) + " " + z.even(30, 499999), "0 -1");
        Check.same("a hopeless one", z.even(3, 500000) + " " + z.even(3, 499999), "0 -1");
    }

    @Boundary.Says("(from there, without CHASES, who is at END 0 as now, GAMES as now)")
    private static void terms3_evenFromThere() {
        ChaseCourt x = evenFrom(12);
        x.score(3, -3, 0);
        Check.same("not from the points now", x.even(30, 0), 12);
        Check.court(x, "club 2;games 6");
        x.rally(2, 4);
        Check.same("without the chase that stands", x.even(30, 0), 12);
        x.rally(2, 4);
        Check.same("who is at END 0 as now: by the other's serve it is even at once", x.stands(2) + " " + x.even(30, 3000), "1 0");
        x.score(0, 0, 0);
        x.plays(0, Check.rule(x, "style 2 if games > 1;style 3"));
        Check.same("games as now", x.even(30, 500000) + " " + x.even(30, 499999), "0 -1");
        x.games(2, 0);
        Check.same("games as now", x.even(30, 500000) + " " + x.even(30, 499999), "0 -1");
        x.plays(0, Check.rule(x, "style 1 if games > 1;style 3"));
        Check.same("games as now: a half each", x.even(30, 3000), 0);
        x.games(1, 0);
        Check.same("games as now: all is lost", x.even(30, 3000), -1);
    }

    // ---- Promises 16 to 22 ----

    @Boundary.Says("CHANCE. IllegalArgumentException: RALLIES are none; IllegalStateException.")
    private static void promise16_chance() {
        ChaseCourt x = new ChaseCourt();
        Check.same("0 and 30 are taken", x.chance(1, 0) >= 0 && x.chance(1, 30) > 0, true);
        for (int none : NO_RALLIES) {
            ChaseCourt y = new ChaseCourt();
            Check.refused("rallies " + none, y, ARGUMENT, () -> y.chance(0, none));
            Check.refused("no player is told first", y, INDEX, () -> y.chance(2, none));
            y.games(0, 1);
            Check.refused("no rallies are told first", y, ARGUMENT, () -> y.chance(0, none));
        }
        x.games(1, 0);
        Check.refused("the set is over, also by 0", x, STATE, () -> x.chance(0, 0));
        Check.refused("the set is over", x, STATE, () -> x.chance(1, 30));
        Check.refused("no player is told first", x, INDEX, () -> x.chance(-1, 30));
    }

    @Boundary.Says("BEST (style false), or the STYLE that it takes now (NONE by 0 RALLIES). IllegalArgumentException, IllegalStateException likewise.")
    private static void promise17_best() {
        ChaseCourt x = new ChaseCourt();
        Check.same("by 0", x.best(0, 0, true) + " " + x.best(0, 0, false), "-1 0");
        Check.same("by 1", x.best(0, 1, true) + " " + x.best(0, 1, false), "0 0");
        Check.same("by 30", x.best(0, 30, true) + " " + x.best(0, 30, false), "0 " + x.chance(0, 30));
        for (int none : NO_RALLIES) {
            ChaseCourt y = new ChaseCourt();
            Check.refused("rallies " + none, y, ARGUMENT, () -> y.best(0, none, true));
            Check.refused("no player is told first", y, INDEX, () -> y.best(-1, none, false));
            y.games(0, 1);
            Check.refused("no rallies are told first", y, ARGUMENT, () -> y.best(0, none, false));
        }
        x.games(1, 0);
        Check.refused("the set is over, also by 0", x, STATE, () -> x.best(0, 0, true));
        Check.refused("the set is over", x, STATE, () -> x.best(0, 1, false));
    }

    @Boundary.Says("BISQUE what 0 the chance with it, 1 1 if it is taken now, 2 how much more than CHANCE. IllegalArgumentException, IllegalStateException likewise; NoSuchElementException: another what.")
    private static void promise18_saves() {
        ChaseCourt x = at("", 3, 2, 0);
        Check.same("by 0", x.saves(0, 0, 0) + " " + x.saves(0, 0, 1) + " " + x.saves(0, 0, 2), "0 0 0");
        Check.same("by 30", x.saves(0, 30, 0) + " " + x.saves(0, 30, 1) + " " + x.saves(0, 30, 2), WHOLE + " 1 " + (WHOLE - x.chance(0, 30)));
        for (int none : NO_RALLIES) {
            ChaseCourt y = new ChaseCourt();
            Check.refused("rallies " + none, y, ARGUMENT, () -> y.saves(0, none, 3));
            Check.refused("no player is told first", y, INDEX, () -> y.saves(2, none, 3));
            y.games(0, 1);
            Check.refused("no rallies are told first", y, ARGUMENT, () -> y.saves(0, none, 3));
        }
        for (int what : new int[] {-1, 3, LEAST, MOST}) {
            ChaseCourt y = new ChaseCourt();
            Check.refused("what " + what, y, ELEMENT, () -> y.saves(0, 1, what));
            Check.refused("what " + what + " by 0", y, ELEMENT, () -> y.saves(0, 0, what));
            y.games(1, 0);
            Check.refused("the set is told first", y, STATE, () -> y.saves(0, 1, what));
        }
    }

    @Boundary.Says("WORTH of a CHASE; -2000000000 without. IllegalArgumentException, IllegalStateException likewise.")
    private static void promise19_worth() {
        ChaseCourt x = Check.courtOf("club 1");
        Check.same("0 and 9, by 0 and 30", x.worth(0, 0, 0) + " " + x.worth(1, 9, 0) + " " + (x.worth(0, 9, 30) > -WHOLE), "0 0 true");
        for (int none : NO_RALLIES) {
            ChaseCourt y = new ChaseCourt();
            Check.refused("rallies " + none, y, ARGUMENT, () -> y.worth(0, 0, none));
            Check.refused("no line is told first", y, INDEX, () -> y.worth(0, 10, none));
            y.games(0, 1);
            Check.refused("no rallies are told first", y, ARGUMENT, () -> y.worth(0, 0, none));
        }
        x.rally(2, 4);
        Check.same("without", x.worth(0, 4, 30), -2000000000);
        Check.fails("no player is told first", INDEX, () -> x.worth(2, 4, 30));
        Check.fails("no line is told first", INDEX, () -> x.worth(0, -1, 30));
        Check.fails("no rallies are told first", ARGUMENT, () -> x.worth(0, 4, 31));
        x.games(1, 0);
        Check.refused("the set is over, told first too", x, STATE, () -> x.worth(0, 4, 30));
        Check.refused("no line is told first", x, INDEX, () -> x.worth(0, 10, 30));
    }

    @Boundary.Says("SET. IllegalArgumentException, IllegalStateException likewise.")
    private static void promise20_set() {
        ChaseCourt x = Check.courtOf(SURE + ";games 6");
        Check.same("by 0", x.set(0, 0) + " " + x.set(1, 0), "0 0");
        Check.same("six games", x.set(0, 30) + " " + x.set(1, 30), WHOLE + " 0");
        x.games(5, 5);
        Check.same("the last game", x.set(0, 3) + " " + x.set(0, 4), "0 " + WHOLE);
        for (int none : NO_RALLIES) {
            ChaseCourt y = new ChaseCourt();
            Check.refused("rallies " + none, y, ARGUMENT, () -> y.set(0, none));
            Check.refused("no player is told first", y, INDEX, () -> y.set(2, none));
            y.games(0, 1);
            Check.refused("no rallies are told first", y, ARGUMENT, () -> y.set(0, none));
        }
        x.games(6, 5);
        Check.refused("the set is over, also by 0", x, STATE, () -> x.set(0, 0));
        x.games(0, 6);
        Check.refused("the set is over", x, STATE, () -> x.set(0, 30));
    }

    @Boundary.Says("A GAME that begins with a PLAYER at END 0: the chance that it is won by a PLAYER with another one at END 0 at its end. IllegalArgumentException: RALLIES are none.")
    private static void promise21_ways() {
        ChaseCourt x = Check.courtOf(SURE);
        for (int server = 0; server < 2; server++) {
            for (int winner = 0; winner < 2; winner++) {
                for (int then = 0; then < 2; then++) {
                    boolean sure = winner == server && then == server;
                    Check.same("by 4", x.ways(server, winner, then, 4), sure ? WHOLE : 0);
                    Check.same("by 3", x.ways(server, winner, then, 3), 0);
                    Check.same("by 0", x.ways(server, winner, then, 0), 0);
                    Check.same("by 30", x.ways(server, winner, then, 30), sure ? WHOLE : 0);
                }
            }
        }
        x.begin(3, 0);
        Check.same("from BEGIN", x.ways(0, 0, 0, 6) + " " + x.ways(0, 0, 0, 7), "0 " + WHOLE);
        x.games(1, 1);
        x.score(3, 3, 1);
        Check.same("the score now and a set that is over are nothing to it", x.ways(0, 0, 0, 6) + " " + x.ways(0, 0, 0, 7), "0 " + WHOLE);
        for (int none : NO_RALLIES) {
            ChaseCourt y = new ChaseCourt();
            Check.refused("rallies " + none, y, ARGUMENT, () -> y.ways(0, 0, 0, none));
            Check.refused("no server is told first", y, INDEX, () -> y.ways(2, 0, 0, none));
            Check.refused("no winner is told first", y, INDEX, () -> y.ways(0, -1, 0, none));
            Check.refused("no other one is told first", y, INDEX, () -> y.ways(0, 0, 2, none));
        }
    }

    @Boundary.Says("with another one at END 0 at its end")
    private static void promise21_whoIsAtEnd0AtItsEnd() {
        ChaseCourt x = Check.courtOf("club 1;rally 0 0 won 0;rally 0 0 lost 0;rally 0 0 dead 5 100;even 1");
        // each chase is played off at the same line: the server's point, who was the striker when it was made
        Check.same("1 0, then back to the other end, and so on", x.ways(1, 0, 0, 30) + " " + x.ways(1, 0, 1, 30), "0 0");
        x.begin(0, 3);
        Check.same("0 serves, a chase, 1 serves and has the game", x.ways(0, 1, 1, 1) + " " + x.ways(0, 1, 1, 2), "0 " + WHOLE);
        Check.same("in no other way", x.ways(0, 1, 0, 2) + " " + x.ways(0, 0, 0, 2) + " " + x.ways(0, 0, 1, 2), "0 0 0");
        Check.same("1 serves, a chase, 0 has a point; a chase, and 1 has the game", x.ways(1, 1, 1, 3) + " " + x.ways(1, 1, 1, 4), "0 " + WHOLE);
    }

    @Boundary.Says("EVEN; NONE. IllegalArgumentException: RALLIES or millionths are none.")
    private static void promise22_even() {
        ChaseCourt x = new ChaseCourt();
        Check.same("by 0", x.even(0, 0) + " " + x.even(0, 499999) + " " + x.even(0, 500000), "-1 -1 0");
        Check.same("by 30", x.even(30, 500000), 0);
        for (int none : NO_RALLIES) {
            ChaseCourt y = new ChaseCourt();
            Check.refused("rallies " + none, y, ARGUMENT, () -> y.even(none, 0));
        }
        for (int none : new int[] {-1, 500001, LEAST, MOST}) {
            ChaseCourt y = new ChaseCourt();
            Check.refused("millionths " + none, y, ARGUMENT, () -> y.even(4, none));
        }
        x.games(1, 6);
        Check.same("also when the set is over", x.even(30, 500000) + " " + x.even(0, 0), "0 -1");
        x.begin(3, 3);
        Check.same("BEGIN is nothing to it", x.even(30, 3000), 0);
    }
}
