import java.util.NoSuchElementException;

/** Each promise of the document: ordinary inputs, edges, wrong inputs; what is due was found by hand. */
public final class PromisesTest {
    private static final Class<IllegalArgumentException> ARGUMENT = IllegalArgumentException.class;
    private static final Class<IllegalStateException> STATE = IllegalStateException.class;
    private static final Class<IndexOutOfBoundsException> INDEX = IndexOutOfBoundsException.class;
    private static final Class<NoSuchElementException> ELEMENT = NoSuchElementException.class;
    private static final Class<UnsupportedOperationException> UNSUPPORTED = UnsupportedOperationException.class;

    public static void main(String[] args) {
        newObject();
        tape();
        court();
        courtFaults();
        rule();
        ruleFaults();
        look();
        plays();
        style();
        score();
        games();
        begin();
        rallyInOpenPlay();
        rallyPlayedOff();
        clubs();
        rallyWrong();
        bisque();
        chance();
        best();
        saves();
        worth();
        set();
        ways();
        even();
        log();
        mends();
        play();
        image();
        Check.close();
    }

    private static void newObject() {
        ChaseCourt x = new ChaseCourt();
        Check.same("1 stands", Check.stands(x), "0 0 0 0 -1 -1 0 0 0 0");
        int[] counts = {0, 0, 1, 0, 0, 0, 0};
        for (int i = 0; i < 7; i++) {
            Check.same("1 28 count " + i, x.count(i), counts[i]);
        }
        Check.same("28 count -1", x.count(-1), -1);
        Check.same("28 count 7", x.count(7), -1);
        Check.same("28 count least", x.count(Integer.MIN_VALUE), -1);
        Check.same("1 fault", x.fault(), -1);
        Check.same("1 back", x.back(), false);
        Check.same("1 NONE", ChaseCourt.NONE, -1);
    }

    private static void tape() {
        ChaseCourt x = new ChaseCourt();
        Check.same("3 end 0 of none", x.end(0), true);
        Check.same("3 end 1 of none", x.end(1), false);
        Check.same("3 end -1", x.end(-1), false);
        for (int i = 1; i <= 20; i++) {
            Check.same("2 feed", x.feed(i, -i, 0, Integer.MIN_VALUE, 7), i * 20);
        }
        Check.same("2 feed of 420", x.feed(0, 0, 0, 0, 0), -1);
        Check.same("3 nothing came", x.end(401), false);
        Check.same("3 all", x.end(400), true);
        Check.same("3 385", x.end(385), true);
        Check.same("2 405", x.feed(0, 0, 0, 0, 0), -1);
        Check.same("3 386 is not there", x.end(386), false);
        Check.same("3 381", x.end(381), true);
        Check.same("2 401", x.feed(0, 0, 0, 0, 0), -1);
        Check.same("3 380", x.end(380), true);
        Check.same("2 400", x.feed(0, 0, 0, 0, 0), 400);
        x.end(0);
        // "clubs 1" would be wrong: the highest byte comes first, and bytes go on over numbers
        Check.same("2 order", x.feed('c' << 24 | 'l' << 16 | 'u' << 8 | 'b', ' ' << 24 | '1' << 16 | 's' << 8 | 's', 0, 0, 0), 20);
        x.end(6);
        Check.same("2 read", x.court(), 1);
        Check.same("2 read club", x.count(3), 1);
        Check.same("4 the tape is used up", x.end(1), false);
        x.feed(-1, -1, -1, -1, -1);
        Check.fails("4 wrong bytes", ARGUMENT, x::court);
        Check.same("4 the tape is used up by a wrong text too", x.end(1), false);
        Check.same("6 fault of bytes 255", x.fault(), 0);
    }

    private static void court() {
        ChaseCourt x = new ChaseCourt();
        Check.same("4 empty", Check.court(x, ""), 1);
        Check.same("4 blanks", Check.court(x, "    "), 2);
        Check.same("4 one law", Check.court(x, "games 3"), 3);
        Check.same("28 games", x.count(2), 3);
        Check.same("4 later lines hold", Check.court(x, "games 2;games 003; club 1 ;even 1;club 2;rally0 0 won 10;rally 0 0 won 50"), 4);
        Check.same("28 games", x.count(2), 3);
        Check.same("28 club", x.count(3), 2);
        Check.same("28 even", x.count(4), 1);
        Check.same("4 without blanks", Check.court(x, "rally 1 2won70;rally 1 2lost20;rally 1 2dead9 10"), 5);
        Check.same("7 told", x.look(1, 2, 0) + " " + x.look(1, 2, 1) + " " + x.look(1, 2, 11), "70 20 10");
        Check.same("7 other pair", x.look(2, 1, 0), 50);
        Check.fails("4 wrong at its end", ARGUMENT, () -> Check.court(x, "games 1;rally 1 2 won 71"));
        Check.same("4 nothing stays", x.count(2) + " " + x.look(1, 2, 0) + " " + x.count(0), "3 70 5");
        Check.fails("4 wrong later", ARGUMENT, () -> Check.court(x, "games 1;club 1;even 0;games 7"));
        Check.same("4 nothing stays", x.count(2) + " " + x.count(3) + " " + x.count(4), "3 2 1");
        for (int i = 6; i <= 12; i++) {
            Check.same("4 text", Check.court(x, "club 0"), i);
        }
        Check.fails("4 a 13th text", UNSUPPORTED, () -> Check.court(x, "club 1"));
        Check.same("6 a right text has no wrong byte", x.fault(), -1);
        Check.same("4 nothing stays", x.count(3) + " " + x.count(0), "0 12");
        Check.fails("4 wrong goes ahead of 13th", ARGUMENT, () -> Check.court(x, "club 4"));
        Check.same("6 fault", x.fault(), 5);
        Check.same("4 the tape is used up", x.end(1), false);
    }

    private static void courtFaults() {
        Check.courtFault("", -1);
        Check.courtFault(" ; ", 1);
        Check.courtFault("  club 1 ;  ", 12);
        Check.courtFault("club 1 ;; club 1", 8);
        Check.courtFault("club", 4);
        Check.courtFault("club   ", 7);
        Check.courtFault("clubs 1", 0);
        Check.courtFault("Club 1", 0);
        Check.courtFault("club 1 even 1", 7);
        Check.courtFault("club 1 2", 7);
        Check.courtFault("club 12", 5);
        Check.courtFault("club 002", -1);
        Check.courtFault("club 0002", 5);
        Check.courtFault("club 1\n", 6);
        Check.courtFault("club\t1", 4);
        Check.courtFault("club (1", 5);
        Check.courtFault("games 0", 6);
        Check.courtFault("games 7", 6);
        Check.courtFault("games 6", -1);
        Check.courtFault("games one", 6);
        Check.courtFault("even 2", 5);
        Check.courtFault("even1", -1);
        Check.courtFault("style 1", 0);
        Check.courtFault("won 1", 0);
        Check.courtFault("5", 0);
        Check.courtFault("rally", 5);
        Check.courtFault("rally 4 0 won 50", 6);
        Check.courtFault("rally 3 4 won 50", 8);
        Check.courtFault("rally 3 won 50", 8);
        Check.courtFault("rally 33 won 50", 6);
        Check.courtFault("rally 3 3 50", 10);
        Check.courtFault("rally 3 3 won 101", 14);
        Check.courtFault("rally 3 3 won 100", 17);
        Check.courtFault("rally 3 3 won 100;rally 3 3 lost 0", -1);
        Check.courtFault("rally 3 3 won 100 ;rally 3 3 lost 1 ", 36);
        Check.courtFault("rally 3 3 dead 10 5", 15);
        Check.courtFault("rally 3 3 dead 5", 16);
        Check.courtFault("rally 3 3 dead 5 0", -1);
        Check.courtFault("rally 3 3 dead won", 15);
        Check.courtFault("rally 3 3 won 50" + (char) 233, 16);
        String twelve = "even 1;even 0;even 1;even 0;even 1;even 0;even 1;even 0;even 1;even 0;even 1;even 0";
        Check.courtFault(twelve, -1);
        Check.courtFault(twelve + " ;  even 1", twelve.length() + 4);
        Check.courtFault(twelve + ";;", twelve.length() + 1);
        Check.courtFault(twelve + "; ", twelve.length() + 2);
        Check.courtFault(twelve + "; 12", twelve.length() + 2);
        // a sum that is wrong in between alone is right
        Check.courtFault("rally 0 1 won 60;rally 0 1 won 50", -1);
    }

    private static void rule() {
        ChaseCourt x = new ChaseCourt();
        for (int i = 0; i < 6; i++) {
            Check.same("5 rule", Check.rule(x, i == 0 ? "" : "style " + i % 4), i);
        }
        Check.same("28 rules", x.count(1), 6);
        Check.fails("5 a 7th rule", UNSUPPORTED, () -> Check.rule(x, "style 1"));
        Check.same("6 right", x.fault(), -1);
        Check.fails("5 wrong goes ahead", ARGUMENT, () -> Check.rule(x, "style 1 if"));
        Check.same("6 wrong", x.fault(), 10);
        Check.same("28 rules", x.count(1), 6);
        Check.same("5 the tape is used up", x.end(1), false);
        Check.court(x, "");
        Check.same("6 the latest text", x.fault(), -1);
    }

    private static void ruleFaults() {
        Check.ruleFault(" ", -1);
        Check.ruleFault("style 3", -1);
        Check.ruleFault("style3if serving", -1);
        Check.ruleFault("style 4", 6);
        Check.ruleFault("style 0003", 6);
        Check.ruleFault("style 1 if off ;style 2", -1);
        Check.ruleFault("style 1 if off; ", 16);
        Check.ruleFault("style 1 if serving off", 19);
        Check.ruleFault("style 1 if serving < 1", 19);
        Check.ruleFault("style 1 if mine < his", -1);
        Check.ruleFault("style 1 if mine > his < 3", 22);
        Check.ruleFault("style 1 if mine = 3", 16);
        Check.ruleFault("style 1 if mine and off", 16);
        Check.ruleFault("style 1 if mine + < 3", 18);
        Check.ruleFault("style 1 if mine + 999 < 3", -1);
        Check.ruleFault("style 1 if mine + 1000 < 3", 18);
        Check.ruleFault("style 1 if mine < ", 18);
        Check.ruleFault("style 1 if (mine) < 3", 16);
        Check.ruleFault("style 1 if (mine + his < 3", 26);
        Check.ruleFault("style 1 if off)", 14);
        Check.ruleFault("style 1 if ()", 12);
        Check.ruleFault("style 1 if not", 14);
        Check.ruleFault("style 1 if off or", 17);
        Check.ruleFault("style 1 if off and", 18);
        Check.ruleFault("style 1 if off and not", 22);
        Check.ruleFault("style 1 ifoff", 8);
        Check.ruleFault("style 1 if 1 2 < 3", 13);
        Check.ruleFault("style 1 if or off", 11);
        Check.ruleFault("style 1 if and", 11);
        Check.ruleFault("style 1 if mine < off", 18);
        Check.ruleFault("style 1 if mines < 3", 11);
        Check.ruleFault("style 1 if ((((((off))))))", -1);
        Check.ruleFault("style 1 if (((((((off)))))))", 17);
        Check.ruleFault("style 1 if not not not not not not off", -1);
        Check.ruleFault("style 1 if not not not not not not not off", 35);
        Check.ruleFault("style 1 if not ( not ( not ( off ) and not not off ) )", -1);
        Check.ruleFault("style 1 if not ( not ( not ( not off ) and not not off ) )", 29);
        Check.ruleFault("style 1 if ((((((off)))))) and ((((((off or serving))))))", -1);
        Check.ruleFault("rally 0 0 won 50", 0);
        Check.ruleFault("style 1 if games + chases + line + 7 > 1 + 2", -1);
        String twelve = "style 1;style 1;style 1;style 1;style 1;style 1;style 1;style 1;style 1;style 1;style 1;style 1";
        Check.ruleFault(twelve, -1);
        Check.ruleFault(twelve + ";  style 1", twelve.length() + 3);
        Check.ruleFault(twelve + ";", twelve.length() + 1);
    }

    private static void look() {
        ChaseCourt x = new ChaseCourt();
        Check.same("7 won", x.look(3, 0, 0), 50);
        Check.same("7 dead at 9", x.look(0, 3, 11), 0);
        Check.fails("7 style -1", INDEX, () -> x.look(-1, 0, 0));
        Check.fails("7 style 4", INDEX, () -> x.look(0, 4, 0));
        Check.fails("7 what 12", ELEMENT, () -> x.look(0, 0, 12));
        Check.fails("7 what -1", ELEMENT, () -> x.look(0, 0, -1));
        Check.fails("7 first told", INDEX, () -> x.look(0, 9, 99));
    }

    private static void plays() {
        ChaseCourt x = new ChaseCourt();
        Check.fails("8 no rule", INDEX, () -> x.plays(0, 0));
        Check.fails("8 below none", INDEX, () -> x.plays(0, -2));
        Check.rule(x, "style 1");
        Check.rule(x, "style 2");
        Check.same("8", x.plays(0, 1), -1);
        Check.same("8", x.plays(0, 0), 1);
        Check.same("8", x.plays(1, 1), -1);
        Check.same("9", x.style(0) + " " + x.style(1), "1 2");
        Check.same("8 none", x.plays(0, -1), 0);
        Check.same("9", x.style(0), 0);
        Check.fails("8 rule 2", INDEX, () -> x.plays(0, 2));
        Check.fails("8 player 2", INDEX, () -> x.plays(2, 0));
        Check.fails("8 player -1", INDEX, () -> x.plays(-1, 0));
        Check.fails("9 player 2", INDEX, () -> x.style(2));
        Check.fails("9 player -1", INDEX, () -> x.style(-1));
    }

    private static int styleBy(ChaseCourt x, int player, String condition) {
        if (x.count(1) == 6) {
            x.back();
        }
        int number = Check.rule(x, "style 3 if " + condition);
        x.plays(player, number);
        return x.style(player);
    }

    private static void holds(ChaseCourt x, int player, String condition, boolean due) {
        Check.same("9 " + condition + " of " + player, styleBy(x, player, condition), due ? 3 : 0);
    }

    private static void style() {
        ChaseCourt x = new ChaseCourt();
        Check.court(x, "games 6;club 2");
        x.score(2, -3, 1);
        x.games(1, 4);
        x.image();
        holds(x, 0, "mine > 4", true);
        holds(x, 0, "mine > 5", false);
        holds(x, 0, "his < 1", true);
        holds(x, 1, "mine < 1", true);
        holds(x, 1, "his > 4 and his < 6", true);
        holds(x, 0, "serving", false);
        holds(x, 1, "serving", true);
        holds(x, 0, "line < 11 and line > 9", true);
        holds(x, 0, "chases > 0", false);
        holds(x, 0, "games > 0 and games < 2", true);
        holds(x, 1, "games > 3 and games < 5", true);
        holds(x, 0, "1 < 1", false);
        holds(x, 0, "1 > 1", false);
        holds(x, 0, "1 + 2 + 3 > 5 and 6 > 1 + 2 + 2", true);
        // and binds before or; not binds to its atom alone
        holds(x, 0, "1 > 0 or 1 > 0 and 0 > 1", true);
        holds(x, 0, "(1 > 0 or 1 > 0) and 0 > 1", false);
        holds(x, 0, "not 1 > 0 and 0 > 1", false);
        holds(x, 0, "not 0 > 1 or 1 > 0", true);
        holds(x, 0, "not (0 > 1 or 1 > 0)", false);
        holds(x, 0, "not not off", false);
        x.back();
        x.rally(2, 7);
        x.image();
        holds(x, 0, "line > 6 and line < 8 and chases > 0 and not off", true);
        x.back();
        x.rally(2, 4);
        x.image();
        holds(x, 0, "off and line > 6 and line < 8 and chases > 1", true);
        x.back();
        x.rally(0, 0);
        x.image();
        holds(x, 1, "off and line > 3 and line < 5 and chases < 2", true);
        // the first line that holds; 0 without
        Check.same("9 first", x.plays(0, Check.rule(x, "style 1 if 0 > 1;style 2 if serving or not serving;style 3")), -1);
        Check.same("9 first", x.style(0), 2);
        x.plays(0, Check.rule(x, "style 1 if 0 > 1"));
        Check.same("9 without", x.style(0), 0);
        x.plays(0, Check.rule(x, "style 1 if 0 > 1;".repeat(11) + "style 3"));
        Check.same("9 the 12th line", x.style(0), 3);
        fullTexts();
    }

    /** Texts that fill the tape, with as many things as there are bytes. */
    private static void fullTexts() {
        Check.courtFault(" ".repeat(400), -1);
        Check.courtFault(";".repeat(400), 0);
        Check.ruleFault("(".repeat(400), 0);
        String sum = "style 1 if " + "1+".repeat(193) + "1<9";
        Check.ruleFault(sum, -1);
        Check.ruleFault(sum.substring(0, 398) + "+9", 400);
        Check.ruleFault(sum.substring(0, 398) + "<+", 399);
        ChaseCourt x = new ChaseCourt();
        x.plays(0, Check.rule(x, "style 2 if 181<" + "1+".repeat(180) + "1;style 3"));
        Check.same("9 a sum of 181", x.style(0), 3);
        x.plays(0, Check.rule(x, "style 2 if 180<" + "1+".repeat(180) + "1;style 3"));
        Check.same("9 a sum of 181", x.style(0), 2);
        // six levels, in each of which an "or" and an "and" wait for what is inside
        String deep = "off or 1>0 and (".repeat(6) + "off or 1>0 and 1+1<1+1+1" + ")".repeat(6);
        holds(x, 1, deep, true);
        holds(x, 1, deep.replace("1+1<1+1+1", "1+1+1<1+1"), false);
    }

    private static void score() {
        ChaseCourt x = new ChaseCourt();
        int[][] right = {{-3, -3}, {3, 3}, {3, -3}, {4, 3}, {3, 4}, {0, 2}};
        for (int[] r : right) {
            x.score(r[0], r[1], 1);
            Check.same("10 13", x.stands(0) + " " + x.stands(1) + " " + x.stands(2), r[0] + " " + r[1] + " 1");
        }
        int[][] wrong = {{4, 4}, {4, 2}, {2, 4}, {-4, 0}, {0, -4}, {5, 3}, {3, 5}, {4, -3}, {Integer.MAX_VALUE, 0}};
        for (int[] w : wrong) {
            Check.fails("10 " + w[0] + " " + w[1], ARGUMENT, () -> {
                x.score(w[0], w[1], 0);
                return null;
            });
        }
        Check.fails("10 player goes ahead", INDEX, () -> {
            x.score(4, 4, 2);
            return null;
        });
        Check.same("10 nothing changed", Check.stands(x), "0 2 1 0 -1 -1 0 0 0 0");
        x.rally(2, 5);
        x.rally(2, 6);
        Check.same("13 chases", Check.stands(x), "0 2 0 2 5 6 1 0 0 0");
        x.score(1, 1, 1);
        Check.same("10 no chases", Check.stands(x), "1 1 1 0 -1 -1 0 0 0 0");
        Check.fails("13 what 10", ELEMENT, () -> x.stands(10));
        Check.fails("13 what -1", ELEMENT, () -> x.stands(-1));
        int[][] points = {{3, 2, 1}, {2, 3, 1}, {3, 3, 0}, {4, 3, 1}, {3, 4, 1}, {2, 2, 0}, {3, -3, 1}, {2, -3, 0}};
        for (int[] p : points) {
            x.score(p[0], p[1], 0);
            Check.same("13 point of game " + p[0] + " " + p[1], x.stands(9), p[2]);
        }
    }

    private static void games() {
        ChaseCourt x = new ChaseCourt();
        x.games(6, 6);
        Check.same("11", x.stands(7) + " " + x.stands(8), "6 6");
        int[][] wrong = {{7, 0}, {0, 7}, {-1, 0}, {0, -1}};
        for (int[] w : wrong) {
            Check.fails("11", ARGUMENT, () -> {
                x.games(w[0], w[1]);
                return null;
            });
        }
        x.games(0, 5);
        Check.same("11", x.stands(7) + " " + x.stands(8), "0 5");
        Check.fails("11 over", STATE, () -> x.rally(0, 0));
        x.games(0, 0);
        Check.same("11 goes on", x.rally(0, 0), 1);
    }

    private static void begin() {
        ChaseCourt x = new ChaseCourt();
        Check.court(x, "games 2");
        int[][] wrong = {{4, 0}, {0, 4}, {-1, 0}, {0, -1}};
        for (int[] w : wrong) {
            Check.fails("12", ARGUMENT, () -> {
                x.begin(w[0], w[1]);
                return null;
            });
        }
        x.score(3, 0, 1);
        x.begin(3, 2);
        Check.same("12 from the next game on", Check.stands(x), "3 0 1 0 -1 -1 0 0 0 1");
        Check.same("28 owed, given", x.count(5) + " " + x.count(6), "3 2");
        Check.same("14", x.rally(1, 0), 2);
        Check.same("12 now", Check.stands(x), "-3 2 1 0 -1 -1 0 1 0 0");
    }

    private static void rallyInOpenPlay() {
        ChaseCourt x = new ChaseCourt();
        Check.court(x, "games 6");
        Check.same("14 won", x.rally(0, 99), 1);
        Check.same("14 lost", x.rally(1, -5), 2);
        Check.same("14 dead", x.rally(2, 0), 0);
        Check.same("14", Check.stands(x), "1 1 0 1 0 -1 0 0 0 0");
        x.rally(0, 0);
        Check.same("14 stands on", Check.stands(x), "2 1 0 1 0 -1 0 0 0 0");
        x.rally(1, 0);
        x.rally(1, 0);
        Check.same("14 ends are changed at a point of game", Check.stands(x), "2 3 1 1 0 -1 1 0 0 1");
        x.score(3, 3, 0);
        x.rally(2, 4);
        Check.same("14 three all is none", Check.stands(x), "3 3 0 1 4 -1 0 0 0 0");
        x.rally(0, 0);
        Check.same("14 four three is one", Check.stands(x), "4 3 1 1 4 -1 1 0 0 1");
        x.score(4, 3, 1);
        Check.same("14 back to three all", x.rally(0, 0), 1);
        Check.same("14", Check.stands(x), "3 3 1 0 -1 -1 0 0 0 0");
        x.score(3, 4, 1);
        x.rally(0, 0);
        Check.same("14 a game", Check.stands(x), "0 0 1 0 -1 -1 0 0 1 0");
        x.score(2, 2, 0);
        x.rally(2, 3);
        x.rally(1, 0);
        x.rally(1, 0);
        Check.same("14 from three two while played off: the server's", Check.stands(x), "3 3 1 0 -1 -1 0 0 1 0");
    }

    private static void rallyPlayedOff() {
        ChaseCourt x = new ChaseCourt();
        Check.court(x, "games 6");
        x.rally(2, 5);
        x.rally(2, 2);
        Check.same("14 two chases", Check.stands(x), "0 0 1 2 5 2 1 0 0 0");
        Check.same("14 the same line", x.rally(2, 5), 0);
        Check.same("14 the other next", Check.stands(x), "0 0 1 1 2 -1 1 0 0 0");
        Check.same("14 better", x.rally(2, 1), 2);
        Check.same("14 none is", Check.stands(x), "1 0 1 0 -1 -1 0 0 0 0");
        x.rally(2, 5);
        x.rally(2, 2);
        Check.same("14 worse", x.rally(2, 6), 1);
        Check.same("14", Check.stands(x), "2 0 0 1 2 -1 1 0 0 0");
        Check.same("14 won", x.rally(0, 0), 1);
        Check.same("14", Check.stands(x), "3 0 0 0 -1 -1 0 0 0 1");
        x.rally(2, 5);
        Check.same("14 lost", x.rally(1, 0), 2);
        Check.same("14 a game", Check.stands(x), "0 0 1 0 -1 -1 0 1 0 0");
        x.score(2, 0, 0);
        x.rally(2, 0);
        x.rally(2, 9);
        Check.same("14 point of game while two are played off", x.rally(1, 0), 2);
        Check.same("14 ends stay", Check.stands(x), "3 0 1 1 9 -1 1 1 0 1");
        x.score(3, 0, 0);
        x.rally(2, 1);
        x.score(3, 0, 1);
        Check.court(x, "club 2");
        x.rally(2, 1);
        x.rally(2, 2);
        Check.same("14 won by the first chase", x.rally(0, 0), 1);
        Check.same("14 the other chase is gone too", Check.stands(x), "0 0 0 0 -1 -1 0 2 0 0");
        Check.court(x, "even 1");
        x.rally(2, 1);
        x.rally(2, 2);
        Check.same("14 the same line by even 1", x.rally(2, 1), 1);
        Check.same("14", Check.stands(x), "0 1 1 1 2 -1 1 2 0 0");
    }

    private static void clubs() {
        ChaseCourt x = new ChaseCourt();
        Check.court(x, "games 6;club 1");
        x.rally(2, 8);
        Check.same("14 club 1", Check.stands(x), "0 0 1 1 8 -1 1 0 0 0");
        Check.court(x, "club 2");
        x.score(3, 0, 0);
        x.rally(2, 8);
        Check.same("14 club 2", Check.stands(x), "3 0 0 1 8 -1 0 0 0 1");
        x.image();
        Check.court(x, "club 0");
        Check.same("14 a law alone changes nothing", Check.stands(x), "3 0 0 1 8 -1 0 0 0 1");
        x.rally(1, 0);
        Check.same("14 behind a point", Check.stands(x), "3 1 1 1 8 -1 1 0 0 1");
        x.back();
        Check.court(x, "club 1");
        x.score(0, 0, 0);
        Check.court(x, "club 2");
        x.rally(2, 8);
        Check.court(x, "club 1");
        x.bisque(1);
        Check.same("15 club 1 behind a bisque", Check.stands(x), "0 1 1 1 8 -1 1 0 0 0");
    }

    private static void rallyWrong() {
        ChaseCourt x = new ChaseCourt();
        Check.fails("14 how 3", ARGUMENT, () -> x.rally(3, 0));
        Check.fails("14 how 3, line is not looked at", ARGUMENT, () -> x.rally(3, 10));
        Check.fails("14 how -1", ARGUMENT, () -> x.rally(-1, 0));
        Check.fails("14 line 10", INDEX, () -> x.rally(2, 10));
        Check.fails("14 line -1", INDEX, () -> x.rally(2, -1));
        x.games(0, 1);
        Check.fails("14 line goes ahead", INDEX, () -> x.rally(2, 10));
        Check.fails("14 how goes ahead", ARGUMENT, () -> x.rally(3, 0));
        Check.fails("14 over", STATE, () -> x.rally(2, 9));
        Check.fails("15 player goes ahead", INDEX, () -> x.bisque(2));
        Check.fails("15 over", STATE, () -> x.bisque(1));
        Check.same("14 nothing changed", Check.stands(x), "0 0 0 0 -1 -1 0 0 1 0");
    }

    private static void bisque() {
        ChaseCourt x = new ChaseCourt();
        Check.court(x, "games 6");
        Check.fails("15", INDEX, () -> x.bisque(-1));
        Check.same("15", x.bisque(1), false);
        x.rally(2, 3);
        x.bisque(1);
        Check.same("15 stands", Check.stands(x), "0 2 0 1 3 -1 0 0 0 0");
        Check.same("15", x.bisque(1), false);
        Check.same("15 ends are changed", Check.stands(x), "0 3 1 1 3 -1 1 0 0 1");
        Check.same("15 while played off", x.bisque(0), false);
        Check.same("15 stays played off", Check.stands(x), "1 3 1 1 3 -1 1 0 0 1");
        Check.same("15 the game", x.bisque(1), true);
        Check.same("15", Check.stands(x), "0 0 1 0 -1 -1 0 0 1 0");
        x.score(4, 3, 0);
        Check.same("15 not the other's game", x.bisque(1), false);
        Check.same("15", Check.stands(x), "3 3 0 0 -1 -1 0 0 1 0");
    }

    private static void wrongChances(ChaseCourt x) {
        Check.fails("16 player", INDEX, () -> x.chance(2, 31));
        Check.fails("16 rallies", ARGUMENT, () -> x.chance(0, 31));
        Check.fails("16 rallies", ARGUMENT, () -> x.chance(0, -1));
        Check.fails("17 player", INDEX, () -> x.best(-1, 31, true));
        Check.fails("17 rallies", ARGUMENT, () -> x.best(0, 31, true));
        Check.fails("18 player", INDEX, () -> x.saves(2, 31, 3));
        Check.fails("18 rallies", ARGUMENT, () -> x.saves(0, -1, 3));
        Check.fails("19 player", INDEX, () -> x.worth(2, 0, 31));
        Check.fails("19 line", INDEX, () -> x.worth(0, 10, 31));
        Check.fails("19 line", INDEX, () -> x.worth(0, -1, 0));
        Check.fails("19 rallies", ARGUMENT, () -> x.worth(0, 0, 31));
        Check.fails("20 player", INDEX, () -> x.set(2, 31));
        Check.fails("20 rallies", ARGUMENT, () -> x.set(0, 31));
    }

    private static void chance() {
        ChaseCourt x = new ChaseCourt();
        wrongChances(x);
        x.games(1, 0);
        wrongChances(x);
        Check.fails("16 over", STATE, () -> x.chance(0, 0));
        Check.fails("17 over", STATE, () -> x.best(0, 0, true));
        Check.fails("18 over", STATE, () -> x.saves(0, 0, 9));
        Check.fails("19 over", STATE, () -> x.worth(0, 0, 0));
        Check.fails("20 over", STATE, () -> x.set(0, 0));
        x.games(0, 0);
        Check.same("16 by 0", x.chance(0, 0), 0);
        x.score(3, 3, 0);
        Check.same("16 by 1", x.chance(0, 1), 0);
        Check.same("16 by 2", x.chance(0, 2), 250000000);
        Check.same("16 by 4", x.chance(1, 4), 375000000);
        Check.court(x, "rally 0 0 won 33;rally 0 0 lost 67");
        // .33 ^ 2; and once round by .33 * .67 in either order
        Check.same("16 by 2", x.chance(0, 2), 108900000);
        Check.same("16 by 4", x.chance(0, 4), 157055580);
        int value = 0;
        int up = 0;
        int down = 0;
        for (int n = 1; n <= 30; n++) {
            int newValue = (int) ((33L * up + 67L * down) / 100);
            int newUp = (int) ((33L * 1000000000 + 67L * value) / 100);
            int newDown = (int) ((33L * value) / 100);
            value = newValue;
            up = newUp;
            down = newDown;
        }
        Check.same("16 by 30, rounded down each time", x.chance(0, 30), value);
        x.score(3, 3, 1);
        Check.same("16 from the other end", x.chance(1, 2), 108900000);
    }

    private static void best() {
        ChaseCourt x = new ChaseCourt();
        Check.same("17 none by 0", x.best(0, 0, true), -1);
        Check.same("17 0 by 0", x.best(0, 0, false), 0);
        Check.same("17 of several the least", x.best(1, 5, true), 0);
        Check.court(x, "rally 2 0 won 80;rally 2 0 lost 20;rally 3 0 won 80;rally 3 0 lost 20;rally 0 1 won 10;rally 0 1 lost 90");
        x.score(3, 2, 0);
        Check.same("17 style", x.best(0, 1, true), 2);
        Check.same("17 chance", x.best(0, 1, false), 800000000);
        Check.same("17 chance by rules is less", x.chance(0, 1), 500000000);
        Check.same("17 the striker's", x.best(1, 3, true), 1);
        Check.same("17 the striker's: .9 ^ 3", x.best(1, 3, false), 729000000);
        x.score(3, 2, 1);
        Check.same("17 at the other end", x.best(0, 1, true), 1);
        Check.same("17", x.best(0, 1, false), 900000000);
        Check.rule(x, "style 1");
        x.plays(1, 0);
        x.score(3, 2, 0);
        Check.same("17 the other by his rule", x.best(0, 1, false), 500000000);
        Check.same("17", x.best(0, 1, true), 1);
        x.plays(0, 0);
        Check.same("17 his own rule is not asked", x.best(0, 1, true), 1);
    }

    private static void saves() {
        ChaseCourt x = new ChaseCourt();
        Check.fails("18 what 3", ELEMENT, () -> x.saves(0, 1, 3));
        Check.fails("18 what -1", ELEMENT, () -> x.saves(0, 0, -1));
        Check.same("18 by 0", x.saves(0, 0, 0) + " " + x.saves(0, 0, 1) + " " + x.saves(0, 0, 2), "0 0 0");
        x.score(3, 0, 0);
        Check.same("18 his game", x.saves(0, 1, 0) + " " + x.saves(0, 1, 1) + " " + x.saves(0, 1, 2), "1000000000 1 500000000");
        x.score(2, 0, 0);
        // at once: 500000000 by one rally; to go on and take it later: nothing, as none is left
        Check.same("18 now", x.saves(0, 1, 0) + " " + x.saves(0, 1, 1) + " " + x.saves(0, 1, 2), "500000000 1 500000000");
        // by two: at once .75; going on: .5 * 1 and .5 * .5 : as much, so it is kept
        Check.same("18 as much is not more", x.saves(0, 2, 0) + " " + x.saves(0, 2, 1), "750000000 0");
        Check.same("18 more than chance", x.saves(0, 2, 2), 500000000);
        Check.same("18 of the other", x.saves(1, 2, 0), 0);
    }

    private static void worth() {
        ChaseCourt x = new ChaseCourt();
        Check.court(x, "rally 0 0 won 0;rally 0 0 lost 40;rally 0 0 dead 4 60");
        x.score(3, 0, 0);
        // player 0 becomes the striker: lost 40; dead at 4 is better than 5; the same as 4; worse than 3
        Check.same("19 line 5", x.worth(0, 5, 1), 1000000000);
        Check.same("19 line 4", x.worth(0, 4, 1), 400000000);
        Check.same("19 line 3", x.worth(0, 3, 1), 400000000);
        // without it: dead, and then as striker .4; with it he has .4 + .6 * .4, less .6 * .4
        Check.same("19 by 2", x.worth(0, 4, 2), 400000000 + 240000000 - 240000000);
        Check.same("19 by 0", x.worth(1, 9, 0), 0);
        Check.court(x, "club 1");
        x.score(-1, -1, 1);
        Check.same("19 nothing stays", x.worth(0, 4, 3) + Check.stands(x), "0-1 -1 1 0 -1 -1 0 0 0 0");
        x.rally(2, 3);
        Check.same("19 one is played off", x.worth(0, 4, 3), -2000000000);
        Check.fails("19 exceptions go ahead", ARGUMENT, () -> x.worth(0, 4, 31));
        // a chase more for the other player is worth less than nothing
        ChaseCourt y = new ChaseCourt();
        Check.court(y, "rally 0 0 won 100;rally 0 0 lost 0");
        y.score(3, 0, 0);
        Check.same("19 below 0", y.worth(0, 0, 1), -1000000000);
    }

    private static void set() {
        ChaseCourt x = new ChaseCourt();
        Check.court(x, "games 2");
        x.score(3, 2, 0);
        x.games(1, 1);
        Check.same("20 one game", x.set(0, 1) + " " + x.set(1, 1), "500000000 0");
        x.games(1, 0);
        // the game now, by 4 rallies: .5, or three all and .25 each by 3 more; the game behind: .0625 each
        int won = x.chance(0, 4);
        int lost = x.chance(1, 4);
        Check.same("16", won + " " + lost, "625000000 125000000");
        Check.same("20 two games", x.set(0, 4), 625000000 + 125000000 / 16);
        Check.same("20 of the other", x.set(1, 4), 125000000 / 16);
        Check.same("20 by 0", x.set(0, 0), 0);
        x.begin(0, 3);
        // PLAYER 1 needs one point more in the game to come: by one rally .5
        x.score(2, 3, 0);
        Check.same("20 from BEGIN", x.set(1, 1), 250000000);
        ChaseCourt y = new ChaseCourt();
        Check.court(y, "games 6;rally 0 0 won 100;rally 0 0 lost 0");
        Check.same("20 all games", y.set(0, 4) + " " + y.set(1, 4) + " " + y.set(0, 3), "1000000000 0 0");
    }

    private static void ways() {
        ChaseCourt x = new ChaseCourt();
        Check.fails("21", INDEX, () -> x.ways(2, 0, 0, 31));
        Check.fails("21", INDEX, () -> x.ways(0, -1, 0, 31));
        Check.fails("21", INDEX, () -> x.ways(0, 0, 2, 31));
        Check.fails("21", ARGUMENT, () -> x.ways(0, 0, 0, 31));
        Check.fails("21", ARGUMENT, () -> x.ways(0, 0, 0, -1));
        x.games(1, 0);
        Check.same("21 also when the set is over", x.ways(0, 1, 0, 4), 62500000);
        x.begin(0, 3);
        x.score(3, 3, 1);
        Check.same("21 from BEGIN", x.ways(0, 1, 0, 1) + " " + x.ways(0, 0, 0, 1) + " " + x.ways(1, 1, 1, 1) + " " + x.ways(1, 1, 0, 1),
            "500000000 0 500000000 0");
        Check.court(x, "rally 0 0 won 0;rally 0 0 lost 40;rally 0 0 dead 4 60");
        // 0 serves: lost is PLAYER 1's game; dead: ends are changed, then lost is PLAYER 0's point
        Check.same("21 ends are changed", x.ways(0, 1, 0, 2) + " " + x.ways(0, 1, 1, 2), "400000000 0");
        // 1 serves: lost is PLAYER 0's point; dead: PLAYER 0 serves, lost is PLAYER 1's game
        Check.same("21 ends are changed", x.ways(1, 1, 0, 2) + " " + x.ways(1, 1, 1, 2), "240000000 0");
        Check.same("21 by 0", x.ways(0, 0, 0, 0), 0);
    }

    private static void even() {
        ChaseCourt x = new ChaseCourt();
        Check.fails("22", ARGUMENT, () -> x.even(31, 0));
        Check.fails("22", ARGUMENT, () -> x.even(-1, 0));
        Check.fails("22", ARGUMENT, () -> x.even(4, -1));
        Check.fails("22", ARGUMENT, () -> x.even(4, 500001));
        Check.same("22 none", x.even(0, 499999), -1);
        Check.same("22 all", x.even(0, 500000), 0);
        // 30 rallies of even players are nearly .5
        Check.same("22 even", x.even(30, 3000), 0);
        Check.court(x, "rally 0 0 won 100;rally 0 0 lost 0");
        // he always wins his points: by 4 rallies from 0, by 7 from -3; GIVEN 3 changes nothing for him
        Check.same("22 none", x.even(3, 499999), -1);
        Check.same("22 the sure one is as far as may be", x.even(4, 499999), -1);
        Check.same("22", x.even(4, 500000), 0);
        Check.court(x, "rally 0 0 won 60;rally 0 0 lost 40");
        int due = -1;
        ChaseCourt y = new ChaseCourt();
        Check.court(y, "rally 0 0 won 60;rally 0 0 lost 40");
        for (int both = 0; both <= 6 && due < 0; both++) {
            for (int given = 0; given <= both && due < 0; given++) {
                if (given <= 3 && both - given <= 3) {
                    y.score(given - both, given, 0);
                    if (Math.abs(y.chance(0, 30) - 500000000) <= 60000000) {
                        due = 10 * (both - given) + given;
                    }
                }
            }
        }
        Check.same("22 the least handicap", x.even(30, 60000), due);
        Check.same("22 there is one", due > 0, true);
        x.score(0, 0, 1);
        Check.same("22 who is at END 0", x.even(30, 60000), -1);
        x.games(1, 0);
        Check.same("22 also when the set is over", x.even(30, 500000), 0);
        evenByRules();
    }

    /** PLAYER 0 loses until the other has 3; then all is his, but for the first point from -3, which is by chance. */
    private static void evenByRules() {
        ChaseCourt x = new ChaseCourt();
        Check.court(x, "rally 0 0 won 0;rally 0 0 lost 100;rally 2 0 won 100;rally 2 0 lost 0");
        x.plays(0, Check.rule(x, "style 1 if mine < 1 and his > 5;style 2 if his > 5"));
        Check.same("22 from -3 3 it takes 8 rallies", x.even(8, 0), 33);
        Check.same("22 from -3 2 one more", x.even(9, 0), 32);
        Check.same("22 from -3 1 one more", x.even(10, 0), 31);
        Check.same("22 from -3 0 one more", x.even(11, 0), 30);
        Check.same("22 fewer", x.even(7, 0), -1);
    }

    private static int log(ChaseCourt x, String text, int what) {
        Check.put(x, text);
        return x.log(what);
    }

    private static void log() {
        ChaseCourt x = new ChaseCourt();
        Check.court(x, "games 6");
        StringBuilder all = new StringBuilder();
        for (int what = 0; what < 10; what++) {
            all.append(log(x, "w0l0w0d5d7", what)).append(' ');
        }
        Check.same("23", all.toString(), "2 1 1 2 5 7 1 0 0 0 ");
        Check.same("23 nothing stays", Check.stands(x), "0 0 0 0 -1 -1 0 0 0 0");
        Check.same("23 30 rallies", log(x, "w0".repeat(20) + "l0".repeat(8) + "w0w0", 8), 2);
        String[] wrong = {"w", "w0w", "w1", "l9", "x0", "W0", "d:", "d/", "d", "0w", "w0".repeat(31), " w0", "w0 ", "d" + (char) 178};
        for (String w : wrong) {
            Check.fails("23 '" + w + "'", ARGUMENT, () -> log(x, w, 99));
            Check.same("23 the tape is used up", x.end(1), false);
            Check.fails("24 '" + w + "'", ARGUMENT, () -> {
                Check.put(x, w);
                return x.mends(0, 0, 0, 0, false);
            });
            Check.same("24 the tape is used up", x.end(1), false);
        }
        Check.fails("23 what 10", ELEMENT, () -> log(x, "w0", 10));
        Check.fails("23 what -1", ELEMENT, () -> log(x, "", -1));
        Check.court(x, "games 1");
        Check.same("23 the set is over behind it", log(x, "w0w0w0w0", 7), 1);
        Check.fails("23 the set is over", STATE, () -> log(x, "w0w0w0w0w0", 7));
        Check.fails("23 the set is over, ahead of what", STATE, () -> log(x, "w0w0w0w0w0", 77));
        Check.fails("23 no log goes ahead", ARGUMENT, () -> log(x, "w0w0w0w0w0w1", 7));
        x.games(0, 1);
        Check.same("23 no rally", log(x, "", 8), 1);
        Check.fails("23 one rally", STATE, () -> log(x, "d0", 8));
    }

    private static long mends(ChaseCourt x, String text, boolean ways, int... goal) {
        Check.put(x, text);
        return x.mends(goal[0], goal[1], goal[2], goal[3], ways);
    }

    private static void mends(ChaseCourt x, String text, String due, int... goal) {
        Check.same("24 " + text, mends(x, text, false, goal) + " " + mends(x, text, true, goal), due);
    }

    private static void mends() {
        ChaseCourt x = new ChaseCourt();
        Check.court(x, "games 2");
        mends(x, "", "0 1", 0, 0, 0, 0);
        mends(x, "", "-1 0", 0, 0, 0, 1);
        mends(x, "w0w0", "0 1", 2, 0, 0, 0);
        mends(x, "w0w0", "-1 0", 1, 1, 0, 0);
        // two chases at 5 and 2, played off by 3 (better: PLAYER 0, as striker) and 3 (worse: PLAYER 1)
        mends(x, "d5d2d3d3", "0 1", 1, 1, 0, 0);
        mends(x, "d5d2d3d3", "1 1", 2, 0, 0, 0);
        mends(x, "d5d2d3d3", "1 1", 1, 0, 0, 0);
        mends(x, "d5d2d3d3", "2 1", 0, 0, 0, 0);
        mends(x, "d5d2d3d3", "-1 0", 3, 0, 0, 0);
        mends(x, "d5d2d3d3", "-1 0", Integer.MIN_VALUE, Integer.MAX_VALUE, 7, -7);
        // both worse: PLAYER 1 has two; one point for each may come by either of the two
        mends(x, "d5d2d9d9", "1 2", 1, 1, 0, 0);
        // one of the two called the same
        mends(x, "d5d2d9d9", "1 2", 0, 1, 0, 0);
        mends(x, "d5d2d9d9", "2 2", 1, 0, 0, 0);
        // a chase that is made can't be mended
        mends(x, "d5", "-1 0", 0, 1, 0, 0);
        Check.same("24 nothing stays", Check.stands(x), "0 0 0 0 -1 -1 0 0 0 0");
        Check.court(x, "even 1");
        // either chase called the same, or worse: PLAYER 1 has its point by both, and both are ways
        mends(x, "d5d2d3d1", "1 4", 1, 1, 0, 0);
        mends(x, "d5d2d3d1", "0 1", 2, 0, 0, 0);
        Check.court(x, "even 0;games 1");
        x.score(3, 0, 0);
        // the chase at 6 is lost in the log; were it won, the set were over ahead of w0
        mends(x, "d6d7w0", "0 1", 3, 2, 0, 0);
        mends(x, "d6d7w0", "-1 0", 0, 0, 1, 0);
        mends(x, "d6d7", "1 1", 0, 0, 1, 0);
        x.games(1, 0);
        mends(x, "", "0 1", 3, 0, 1, 0);
        mends(x, "w0", "-1 0", 3, 0, 1, 0);
    }

    private static void play() {
        ChaseCourt x = new ChaseCourt();
        Check.fails("25", ARGUMENT, () -> x.play(1, 201, 11));
        Check.fails("25", ARGUMENT, () -> x.play(1, -1, 0));
        Check.fails("25", ELEMENT, () -> x.play(1, 200, 11));
        Check.fails("25", ELEMENT, () -> x.play(1, 0, -1));
        Check.same("25 none", x.play(1, 0, 10) + " " + x.play(1, 0, 9), "0 0");
        // SEED 1: 1103527590; bits 16 to 30: 16838, modulo 100: 38
        Check.same("25 first draw", x.play(1, 1, 0) + " " + x.play(1, 1, 1), "1 0");
        Check.court(x, "rally 0 0 won 38;rally 0 0 lost 62");
        Check.same("25 38 is not below 38", x.play(1, 1, 0) + " " + x.play(1, 1, 1), "0 1");
        Check.court(x, "rally 0 0 lost 1;rally 0 0 dead 3 0;rally 0 0 dead 4 61");
        Check.same("25 38 is below 39", x.play(1, 1, 1) + " " + x.play(1, 1, 3), "1 0");
        Check.court(x, "rally 0 0 lost 0;rally 0 0 dead 0 0;rally 0 0 dead 2 1;rally 0 0 dead 4 61");
        Check.same("25 dead at 2", x.play(1, 1, 3) + " " + x.play(1, 1, 4), "1 2");
        Check.court(x, "rally 0 0 won 100;rally 0 0 dead 2 0;rally 0 0 dead 4 0;games 3");
        Check.same("25 three games", x.play(-77, 200, 10) + " " + x.play(-77, 200, 7) + " " + x.play(-77, 11, 7), "12 3 2");
        Check.rule(x, "style 1 if games > 0");
        x.plays(0, 0);
        Check.court(x, "rally 1 0 won 0;rally 1 0 lost 100");
        Check.same("25 rules are asked by games then", x.play(5, 200, 10) + " " + x.play(5, 200, 7) + " " + x.play(5, 200, 8), "16 1 3");
        Check.same("25 nothing stays", Check.stands(x), "0 0 0 0 -1 -1 0 0 0 0");
        x.games(3, 0);
        Check.same("25 over", x.play(5, 200, 10), 0);
    }

    private static void image() {
        ChaseCourt x = new ChaseCourt();
        Check.same("27 none", x.back(), false);
        Check.court(x, "games 3;club 1");
        Check.rule(x, "style 1");
        x.plays(0, 0);
        x.score(1, 2, 1);
        x.rally(2, 4);
        x.games(1, 2);
        x.begin(1, 2);
        x.image();
        Check.court(x, "games 4;club 2;even 1;rally 0 0 won 51;rally 0 0 lost 49");
        Check.rule(x, "style 2");
        x.plays(0, 1);
        x.plays(1, 1);
        x.score(0, 0, 0);
        x.games(0, 0);
        x.begin(0, 0);
        Check.put(x, "club 0");
        Check.same("27", x.back(), true);
        Check.same("27 the score", Check.stands(x), "1 2 0 1 4 -1 1 1 2 0");
        Check.same("27 counts", x.count(0) + " " + x.count(1) + " " + x.count(2) + " " + x.count(3) + " " + x.count(4)
            + " " + x.count(5) + " " + x.count(6), "1 1 3 1 0 1 2");
        Check.same("27 chances", x.look(0, 0, 0), 50);
        Check.same("27 styles", x.style(0) + " " + x.style(1), "1 0");
        Check.same("27 not the tape", x.end(7) + " " + x.end(6), "false true");
        Check.fails("27 not fault()", ARGUMENT, () -> Check.court(x, "x"));
        int fault = x.fault();
        Check.same("27 again", x.back(), true);
        Check.same("27 not fault()", x.fault(), fault);
        Check.same("27 a rule of that number again", Check.rule(x, "style 3"), 1);
        x.plays(0, 1);
        Check.same("27", x.style(0), 3);
        x.back();
        Check.same("27", x.style(0) + " " + x.count(1), "1 1");
        x.score(3, 3, 0);
        x.image();
        x.score(0, 0, 0);
        x.back();
        Check.same("26 the later image", Check.stands(x), "3 3 0 0 -1 -1 0 1 2 0");
    }
}
