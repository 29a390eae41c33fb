import java.util.NoSuchElementException;

/** The edges of the score: points, games, chases and ends (Terms, part 2, and promises 10 to 15). */
public final class ScoreBoundariesTest {
    private static final Class<IllegalArgumentException> ARGUMENT = IllegalArgumentException.class;
    private static final Class<IllegalStateException> STATE = IllegalStateException.class;
    private static final Class<IndexOutOfBoundsException> INDEX = IndexOutOfBoundsException.class;
    private static final Class<NoSuchElementException> ELEMENT = NoSuchElementException.class;
    private static final int LEAST = Integer.MIN_VALUE;
    private static final int MOST = Integer.MAX_VALUE;
    private static final int WON = 0;
    private static final int LOST = 1;
    private static final int DEAD = 2;

    public static void main(String[] args) throws Exception {
        Boundary.runAll(ScoreBoundariesTest.class);
    }

    private static String points(ChaseCourt x) {
        return x.stands(0) + " " + x.stands(1);
    }

    private static String games(ChaseCourt x) {
        return x.stands(7) + " " + x.stands(8);
    }

    /** Who is at END 0, how many chases, their lines, and whether one is played off. */
    private static String chases(ChaseCourt x) {
        return x.stands(2) + ": " + x.stands(3) + " at " + x.stands(4) + " " + x.stands(5) + (x.stands(6) == 1 ? " off" : "");
    }

    private static ChaseCourt at(String text, int first, int second, int server) {
        ChaseCourt x = Check.courtOf(text);
        x.score(first, second, server);
        return x;
    }

    // ---- Terms: points and games ----

    @Boundary.Says("SCORE: POINTS of both (- 3 to 4), who is at END 0,")
    private static void terms2_pointsMinus3To4() {
        ChaseCourt x = at("games 6", -3, -3, 0);
        for (int point = -2; point <= 3; point++) {
            x.rally(WON, 0);
            Check.same("one more", points(x), point + " -3");
        }
        x.rally(WON, 0);
        Check.same("4 is a game here", points(x) + " " + games(x), "0 0 1 0");
        x.score(3, 3, 0);
        x.rally(WON, 0);
        Check.same("4 is the most that stands", points(x), "4 3");
        x.rally(WON, 0);
        Check.same("never 5", points(x) + " " + games(x), "0 0 2 0");
    }

    @Boundary.Says({"CHASES (at most 2, each at a LINE) that stand, or are played off;", "GAMES of both (0 to 6)."})
    private static void terms2_atMost2ChasesAnd6Games() {
        ChaseCourt x = Check.courtOf("games 6;club 2");
        x.rally(DEAD, 9);
        x.rally(DEAD, 0);
        Check.same("two", chases(x), "1: 2 at 9 0 off");
        x.rally(DEAD, 3);
        Check.same("a third is none: it plays one off", chases(x), "1: 1 at 0 -1 off");
        x.rally(DEAD, 0);
        Check.same("none", chases(x), "1: 0 at -1 -1");
        x.games(5, 5);
        x.score(3, 0, 0);
        x.rally(WON, 0);
        Check.same("a 6th game", games(x), "6 5");
        Check.refused("no 7th by a rally", x, STATE, () -> x.rally(WON, 0));
        Check.refused("no 7th by a bisque", x, STATE, () -> x.bisque(0));
        x.games(5, 5);
        x.score(0, 3, 0);
        x.bisque(1);
        Check.same("a 6th game of the other", games(x), "5 6");
        Check.fails("no 7th", STATE, () -> x.bisque(1));
    }

    /** What one point more for each player leads to: points, or who has the game. */
    private static void point(int first, int second, String byFirst, String bySecond) {
        for (int player = 0; player < 2; player++) {
            String due = player == 0 ? byFirst : bySecond;
            for (int server = 0; server < 2; server++) {
                ChaseCourt x = at("games 6", first, second, server);
                x.rally(player == server ? WON : LOST, 0);
                Check.same("a rally at " + first + " " + second, points(x) + ", " + games(x), due);
            }
            ChaseCourt y = at("games 6", first, second, 0);
            boolean game = due.equals("0 0, 1 0") || due.equals("0 0, 0 1");
            Check.same("the game by a bisque at " + first + " " + second, y.bisque(player), game);
            Check.same("a bisque at " + first + " " + second, points(y) + ", " + games(y), due);
        }
    }

    @Boundary.Says({"A point: POINTS are 1 more; if both are 4 then, both are 3.", "A GAME is won by who has 4 at least, and 2 more than the other at least:"})
    private static void terms2_aPointAndAGame() {
        point(0, 0, "1 0, 0 0", "0 1, 0 0");
        point(-3, -3, "-2 -3, 0 0", "-3 -2, 0 0");
        point(2, 2, "3 2, 0 0", "2 3, 0 0");
        point(2, -3, "3 -3, 0 0", "2 -2, 0 0");
        point(3, -3, "0 0, 1 0", "3 -2, 0 0");
        point(3, 2, "0 0, 1 0", "3 3, 0 0");
        point(2, 3, "3 3, 0 0", "0 0, 0 1");
        point(3, 3, "4 3, 0 0", "3 4, 0 0");
        point(4, 3, "0 0, 1 0", "3 3, 0 0");
        point(3, 4, "3 3, 0 0", "0 0, 0 1");
        point(-3, 3, "-2 3, 0 0", "0 0, 0 1");
    }

    @Boundary.Says("then GAMES are 1 more, POINTS as at the begin (BEGIN: 0 of each at first), no CHASES.")
    private static void terms2_behindAGame() {
        ChaseCourt x = at("games 6;club 2", 3, 0, 0);
        x.rally(DEAD, 5);
        x.rally(WON, 0);
        Check.same("one that stood is gone, and ends stay", Check.stands(x), "0 0 0 0 -1 -1 0 1 0 0");
        x.begin(3, 3);
        x.score(0, 3, 0);
        x.rally(DEAD, 5);
        x.rally(DEAD, 6);
        x.rally(WON, 0);
        Check.same("both that were played off are gone", Check.stands(x), "-3 3 1 0 -1 -1 0 1 1 1");
        x.begin(0, 0);
        x.rally(WON, 0);
        Check.same("by BEGIN of then", Check.stands(x), "0 0 1 0 -1 -1 0 1 2 0");
        x.score(3, 0, 1);
        x.rally(DEAD, 5);
        x.rally(DEAD, 6);
        x.bisque(0);
        Check.same("also by a bisque", Check.stands(x), "0 0 0 0 -1 -1 0 2 2 0");
        x.score(3, 0, 0);
        x.rally(DEAD, 5);
        Check.court(x, "club 1");
        x.rally(WON, 0);
        Check.same("club 1 has nothing to change ends for", Check.stands(x), "0 0 0 0 -1 -1 0 3 2 0");
    }

    @Boundary.Says("POINT OF GAME: somebody would win the GAME by one point more.")
    private static void terms2_pointOfGame() {
        for (int first = -3; first <= 4; first++) {
            for (int second = -3; second <= 4; second++) {
                boolean usual = first < 4 && second < 4;
                if (usual || first + second == 7) {
                    ChaseCourt x = new ChaseCourt();
                    x.score(first, second, 0);
                    // 3 against 2 and fewer, or 4 against 3
                    boolean due = first == 3 && second < 3 || second == 3 && first < 3 || first == 4 || second == 4;
                    Check.same(first + " " + second, x.stands(9), due ? 1 : 0);
                }
            }
        }
    }

    // ---- Terms: rallies ----

    @Boundary.Says("A RALLY while no CHASE is played off: WON: a point of the SERVER, LOST: of the STRIKER; DEAD: a CHASE more at the LINE.")
    private static void terms2_aRallyInOpenPlay() {
        for (int line = 0; line < 10; line++) {
            ChaseCourt x = at("club 2", 1, 1, 1);
            Check.same("won", x.rally(WON, line), 1);
            Check.same("the server's", points(x) + " " + chases(x), "1 2 1: 0 at -1 -1");
            Check.same("lost", x.rally(LOST, line), 2);
            Check.same("the striker's", points(x) + " " + chases(x), "2 2 1: 0 at -1 -1");
            Check.same("dead", x.rally(DEAD, line), 0);
            Check.same("a chase", points(x) + " " + chases(x), "2 2 1: 1 at " + line + " -1");
        }
    }

    @Boundary.Says("Behind it (also behind a point), if there is a CHASE, and there are 2, or it is a POINT OF GAME")
    private static void terms2_club0ChangesEndsBy2OrAPointOfGame() {
        ChaseCourt x = new ChaseCourt();
        x.rally(DEAD, 5);
        Check.same("one chase stands", chases(x), "0: 1 at 5 -1");
        x.rally(WON, 0);
        x.rally(WON, 0);
        Check.same("no point of game yet", chases(x), "0: 1 at 5 -1");
        x.rally(WON, 0);
        Check.same("behind a point", points(x) + " " + chases(x), "3 0 1: 1 at 5 -1 off");
        x.score(0, 0, 0);
        x.rally(DEAD, 5);
        x.rally(DEAD, 4);
        Check.same("two", chases(x), "1: 2 at 5 4 off");
        x.score(2, 3, 0);
        x.rally(DEAD, 5);
        Check.same("behind a chase", chases(x), "1: 1 at 5 -1 off");
        x.score(2, 2, 0);
        x.rally(LOST, 0);
        Check.same("a point of game without a chase", chases(x), "0: 0 at -1 -1");
        x.score(3, 3, 0);
        x.rally(DEAD, 5);
        Check.same("three all is none", chases(x), "0: 1 at 5 -1");
        x.rally(LOST, 0);
        Check.same("three four is one", points(x) + " " + chases(x), "3 4 1: 1 at 5 -1 off");
    }

    @Boundary.Says("(club 1: if there is one; club 2: if there are 2 alone):")
    private static void terms2_club1And2() {
        ChaseCourt x = Check.courtOf("club 1");
        x.rally(WON, 0);
        Check.same("club 1 without a chase", chases(x), "0: 0 at -1 -1");
        x.rally(DEAD, 5);
        Check.same("club 1 by one", chases(x), "1: 1 at 5 -1 off");
        ChaseCourt y = at("club 2", 3, 2, 0);
        y.rally(DEAD, 5);
        Check.same("club 2 not by a point of game", chases(y), "0: 1 at 5 -1");
        y.rally(LOST, 0);
        Check.same("club 2 not behind a point", chases(y), "0: 1 at 5 -1");
        y.rally(LOST, 0);
        Check.same("club 2 not behind a point of game", points(y) + " " + chases(y), "3 4 0: 1 at 5 -1");
        y.rally(DEAD, 4);
        Check.same("club 2 by two", chases(y), "1: 2 at 5 4 off");
    }

    @Boundary.Says("Behind it (also behind a point), if there is a CHASE,")
    private static void terms2_aLawOfThenIsAskedBehindTheNextRally() {
        ChaseCourt x = at("club 2;games 6", 3, 3, 0);
        x.rally(DEAD, 5);
        x.rally(WON, 0);
        Check.court(x, "club 0");
        Check.same("not behind a text", points(x) + " " + chases(x), "4 3 0: 1 at 5 -1");
        x.image();
        x.rally(LOST, 0);
        Check.same("it is no point of game any more", points(x) + " " + chases(x), "3 3 0: 1 at 5 -1");
        x.back();
        Check.court(x, "club 1");
        x.rally(LOST, 0);
        Check.same("club 1 by the one that stood", points(x) + " " + chases(x), "3 3 1: 1 at 5 -1 off");
        Check.court(x, "club 2");
        Check.same("what is played off stays so", chases(x), "1: 1 at 5 -1 off");
    }

    @Boundary.Says("ENDS are changed, CHASES are played off, the one that was made first ahead.")
    private static void terms2_theOneThatWasMadeFirstAhead() {
        for (int server = 0; server < 2; server++) {
            ChaseCourt x = at("", 0, 0, server);
            x.rally(DEAD, 8);
            x.rally(DEAD, 2);
            Check.same("ends", chases(x), 1 - server + ": 2 at 8 2 off");
            Check.same("worse than 2, but better than 8", x.rally(DEAD, 5), 2);
            Check.same("ends are changed once", chases(x), 1 - server + ": 1 at 2 -1 off");
            Check.same("worse than 2", x.rally(DEAD, 5), 1);
        }
    }

    @Boundary.Says({"A RALLY while a CHASE is played off: WON: a point of the SERVER; LOST: of the STRIKER;",
        "DEAD: at a better LINE than that of the CHASE: a point of the STRIKER; at a worse one: of the SERVER; at the same: nobody's (even 1: of the SERVER)."})
    private static void terms2_aRallyThatPlaysOff() {
        for (int even = 0; even < 2; even++) {
            for (int chase = 0; chase < 10; chase++) {
                for (int line = 0; line < 10; line++) {
                    ChaseCourt x = Check.courtOf("club 1;even " + even);
                    x.rally(DEAD, chase);
                    int due = line < chase ? 2 : line > chase ? 1 : even;
                    Check.same(line + " against " + chase, x.rally(DEAD, line), due);
                    // PLAYER 1 serves since ends were changed
                    Check.same("points", points(x), due == 2 ? "1 0" : due == 1 ? "0 1" : "0 0");
                    Check.same("no chase more", chases(x), "1: 0 at -1 -1");
                }
            }
        }
        ChaseCourt x = Check.courtOf("club 1");
        x.rally(DEAD, 4);
        Check.same("won", x.rally(WON, 4) + " " + points(x), "1 0 1");
        x.rally(DEAD, 4);
        Check.same("lost", x.rally(LOST, 4) + " " + points(x), "2 0 2");
    }

    @Boundary.Says("The CHASE is gone; if there is another one, it is played off next; else none is.")
    private static void terms2_theChaseIsGone() {
        for (int how = 0; how < 3; how++) {
            ChaseCourt x = at("", 2, 2, 0);
            x.rally(DEAD, 4);
            x.rally(DEAD, 6);
            x.rally(how, 4);
            Check.same("the other next", chases(x), "1: 1 at 6 -1 off");
            x.rally(2, 6);
            Check.same("none", chases(x), "1: 0 at -1 -1");
        }
        ChaseCourt y = at("", 2, 2, 0);
        y.rally(DEAD, 4);
        y.rally(DEAD, 6);
        y.rally(WON, 0);
        Check.same("ends stay at a point of game while one is played off", points(y) + " " + chases(y), "2 3 1: 1 at 6 -1 off");
        y.rally(LOST, 0);
        y.rally(DEAD, 3);
        Check.same("the next chase is made as ever", points(y) + " " + chases(y), "3 3 1: 1 at 3 -1");
    }

    @Boundary.Says("A BISQUE: a point that a PLAYER may take ahead of a RALLY (as a point else; ENDS are changed likewise).")
    private static void terms2_aBisque() {
        ChaseCourt x = at("games 6", 2, 2, 0);
        x.rally(DEAD, 7);
        x.bisque(1);
        Check.same("a point of game, and ends are changed", points(x) + " " + chases(x), "2 3 1: 1 at 7 -1 off");
        x.bisque(0);
        Check.same("ends are changed once alone", points(x) + " " + chases(x), "3 3 1: 1 at 7 -1 off");
        x.bisque(0);
        x.bisque(1);
        Check.same("four all is three all", points(x) + " " + chases(x), "3 3 1: 1 at 7 -1 off");
        ChaseCourt y = at("club 2", 2, 2, 0);
        y.rally(DEAD, 7);
        y.bisque(0);
        Check.same("club 2 leaves ends", points(y) + " " + chases(y), "3 2 0: 1 at 7 -1");
        ChaseCourt z = at("", 2, 2, 0);
        z.bisque(0);
        Check.same("without a chase ends stay", points(z) + " " + chases(z), "3 2 0: 0 at -1 -1");
    }

    // ---- Promises 10 to 15 ----

    @Boundary.Says({"SCORE as told: POINTS (not above 3; 4 of one if the other has 3), who is at END 0; no CHASES.", "IllegalArgumentException: POINTS are none."})
    private static void promise10_score() {
        int taken = 0;
        for (int first = -5; first <= 6; first++) {
            for (int second = -5; second <= 6; second++) {
                int a = first;
                int b = second;
                ChaseCourt x = new ChaseCourt();
                x.rally(DEAD, 3);
                boolean usual = a >= -3 && b >= -3 && a <= 3 && b <= 3;
                if (usual || a == 4 && b == 3 || a == 3 && b == 4) {
                    x.score(a, b, 1);
                    Check.same("taken", points(x) + " " + chases(x), a + " " + b + " 1: 0 at -1 -1");
                    taken++;
                } else {
                    Check.refused("points " + a + " " + b, x, ARGUMENT, () -> x.score(a, b, 1));
                }
            }
        }
        Check.same("so many scores", taken, 51);
    }

    @Boundary.Says("IllegalArgumentException: POINTS are none.")
    private static void promise10_whatIsThrownFirst() {
        int[][] none = {{LEAST, 0}, {MOST, 0}, {0, LEAST}, {3, MOST}, {4, 4}, {4, MOST}};
        for (int[] p : none) {
            ChaseCourt x = new ChaseCourt();
            Check.refused("no points", x, ARGUMENT, () -> x.score(p[0], p[1], 0));
            Check.refused("no player is told first", x, INDEX, () -> x.score(p[0], p[1], 2));
        }
    }

    @Boundary.Says("SCORE as told:")
    private static void promise10_gamesAndBeginStay() {
        ChaseCourt x = Check.courtOf("games 6");
        x.games(2, 5);
        x.begin(1, 3);
        x.score(-3, 3, 1);
        Check.same("games stay", Check.stands(x), "-3 3 1 0 -1 -1 0 2 5 1");
        Check.same("begin stays", x.count(5) + " " + x.count(6), "1 3");
        x.games(6, 0);
        x.score(0, 0, 0);
        Check.same("also when the set is over", Check.stands(x), "0 0 0 0 -1 -1 0 6 0 0");
    }

    @Boundary.Says("GAMES as told. IllegalArgumentException: not 0 to 6.")
    private static void promise11_games0To6() {
        ChaseCourt x = Check.courtOf("club 1");
        x.rally(DEAD, 4);
        for (int games = 0; games <= 6; games++) {
            x.games(games, 6 - games);
            Check.same("taken, and all else stays", Check.stands(x), "0 0 1 1 4 -1 1 " + games + " " + (6 - games) + " 0");
        }
        x.games(6, 6);
        Check.same("6 of both", games(x), "6 6");
        for (int none : new int[] {-1, 7, LEAST, MOST}) {
            ChaseCourt y = new ChaseCourt();
            y.games(0, 1);
            Check.refused("first " + none, y, ARGUMENT, () -> y.games(none, 0));
            Check.refused("second " + none, y, ARGUMENT, () -> y.games(0, none));
        }
    }

    @Boundary.Says("BEGIN: OWED by PLAYER 0, GIVEN to PLAYER 1; it holds from the next GAME on. IllegalArgumentException: not 0 to 3.")
    private static void promise12_begin0To3() {
        for (int owed = 0; owed <= 3; owed++) {
            for (int given = 0; given <= 3; given++) {
                ChaseCourt x = Check.courtOf("games 2");
                x.score(3, 1, 1);
                x.begin(owed, given);
                Check.same("told", x.count(5) + " " + x.count(6), owed + " " + given);
                Check.same("not this game", points(x), "3 1");
                x.rally(LOST, 0);
                Check.same("the next one", points(x), -owed + " " + given);
            }
        }
        for (int none : new int[] {-1, 4, LEAST, MOST}) {
            ChaseCourt x = new ChaseCourt();
            x.begin(2, 1);
            Check.refused("owed " + none, x, ARGUMENT, () -> x.begin(none, 0));
            Check.refused("given " + none, x, ARGUMENT, () -> x.begin(0, none));
        }
    }

    @Boundary.Says("it holds from the next GAME on")
    private static void promise12_alsoBehindTheSet() {
        ChaseCourt x = new ChaseCourt();
        x.begin(3, 3);
        x.score(3, 0, 0);
        x.rally(WON, 0);
        Check.same("behind the last game", Check.stands(x), "-3 3 0 0 -1 -1 0 1 0 1");
        x.begin(1, 0);
        Check.same("a game that has begun stays", points(x), "-3 3");
    }

    @Boundary.Says({"Of SCORE what 0 and 1 POINTS, 2 who is at END 0, 3 CHASES, 4 and 5 their LINES (the next one that is played off first; NONE), 6 1 if one is played off, 7 and 8 GAMES, 9 1 if POINT OF GAME.",
        "NoSuchElementException: another what."})
    private static void promise13_stands() {
        ChaseCourt x = at("games 6", 1, 2, 0);
        x.games(3, 4);
        Check.same("no chase: NONE", Check.stands(x), "1 2 0 0 -1 -1 0 3 4 0");
        x.rally(DEAD, 0);
        Check.same("one: the other NONE", Check.stands(x), "1 2 0 1 0 -1 0 3 4 0");
        x.rally(DEAD, 9);
        Check.same("two, the next one first", Check.stands(x), "1 2 1 2 0 9 1 3 4 0");
        x.rally(WON, 0);
        Check.same("the other is the next one", Check.stands(x), "1 3 1 1 9 -1 1 3 4 1");
        x.rally(LOST, 0);
        Check.same("none", Check.stands(x), "2 3 1 0 -1 -1 0 3 4 1");
        for (int what : new int[] {-1, 10, LEAST, MOST}) {
            Check.fails("what " + what, ELEMENT, () -> x.stands(what));
        }
    }

    @Boundary.Says({"A RALLY: how 0 WON, 1 LOST, 2 DEAD at a LINE (looked at then alone):", "IllegalArgumentException: another how; IllegalStateException."})
    private static void promise14_howAndLine() {
        ChaseCourt x = Check.courtOf("games 2");
        for (int line : new int[] {-1, 10, LEAST, MOST}) {
            Check.same("won: the line is not looked at", x.rally(WON, line), 1);
            Check.same("lost: the line is not looked at", x.rally(LOST, line), 2);
            x.score(0, 0, 0);
            Check.fails("dead", INDEX, () -> x.rally(DEAD, line));
            Check.fails("another how: the line is not looked at", ARGUMENT, () -> x.rally(3, line));
        }
        for (int how : new int[] {-1, 3, LEAST, MOST}) {
            Check.refused("how " + how, x, ARGUMENT, () -> x.rally(how, 0));
        }
    }

    @Boundary.Says("0 nobody has a point by it, 1 the SERVER (ahead of it), 2 the STRIKER.")
    private static void promise14_theServerAheadOfIt() {
        ChaseCourt x = at("games 6", 2, 0, 0);
        x.rally(DEAD, 4);
        Check.same("ends are changed by it: the server ahead of it", x.rally(WON, 0), 1);
        Check.same("it was player 0's", points(x) + " " + chases(x), "3 0 1: 1 at 4 -1 off");
        x.score(0, 2, 0);
        x.rally(DEAD, 4);
        Check.same("the striker ahead of it", x.rally(LOST, 0), 2);
        Check.same("it was player 1's", points(x) + " " + chases(x), "0 3 1: 1 at 4 -1 off");
        Check.same("a point by which the game is won", x.rally(WON, 0), 1);
        x.score(4, 3, 0);
        Check.same("a point by which both are 3", x.rally(LOST, 0) + " " + points(x), "2 3 3");
        Check.same("a chase is nobody's point", x.rally(DEAD, 4), 0);
        Check.same("a second one too", x.rally(DEAD, 4), 0);
        Check.same("nor is the same line", x.rally(DEAD, 4), 0);
    }

    @Boundary.Says("IllegalArgumentException: another how; IllegalStateException.")
    private static void promise14_whatIsThrownFirst() {
        ChaseCourt x = new ChaseCourt();
        x.games(1, 0);
        Check.refused("the set is over", x, STATE, () -> x.rally(WON, 0));
        Check.refused("no line is told first", x, INDEX, () -> x.rally(DEAD, 10));
        Check.refused("another how is told first", x, ARGUMENT, () -> x.rally(3, 0));
        Check.refused("the set is over, at a line", x, STATE, () -> x.rally(DEAD, 9));
    }

    @Boundary.Says("A BISQUE: whether the GAME is his by it. IllegalStateException.")
    private static void promise15_bisque() {
        ChaseCourt x = at("games 2", 2, 3, 0);
        Check.same("not yet", x.bisque(0), false);
        Check.same("four three is no game", x.bisque(0), false);
        Check.same("his", x.bisque(0), true);
        Check.same("the score behind it", Check.stands(x), "0 0 0 0 -1 -1 0 1 0 0");
        x.score(0, 3, 0);
        Check.same("the other's", x.bisque(1), true);
        x.score(0, 3, 0);
        Check.same("the set", x.bisque(1), true);
        Check.refused("the set is over", x, STATE, () -> x.bisque(0));
        Check.refused("no player is told first", x, INDEX, () -> x.bisque(2));
        Check.refused("no player is told first", x, INDEX, () -> x.bisque(-1));
    }
}
