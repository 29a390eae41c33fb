/** The edges of texts: the court, rules, the tape (Terms, part 1, and promises 1 to 9). */
public final class TextBoundariesTest {
    private static final Class<IllegalArgumentException> ARGUMENT = IllegalArgumentException.class;
    private static final Class<IndexOutOfBoundsException> INDEX = IndexOutOfBoundsException.class;
    private static final Class<java.util.NoSuchElementException> ELEMENT = java.util.NoSuchElementException.class;
    private static final Class<UnsupportedOperationException> UNSUPPORTED = UnsupportedOperationException.class;
    private static final int LEAST = Integer.MIN_VALUE;
    private static final int MOST = Integer.MAX_VALUE;

    public static void main(String[] args) throws Exception {
        Boundary.runAll(TextBoundariesTest.class);
    }

    // ---- Terms: who and where ----

    @Boundary.Says("PLAYERS 0 and 1; one is at END 0 (where one serves: the SERVER), the other at END 1 (the STRIKER).")
    private static void terms1_players0And1() {
        for (int player : new int[] {-1, 2, LEAST, MOST}) {
            ChaseCourt x = new ChaseCourt();
            Check.fails("plays", INDEX, () -> x.plays(player, -1));
            Check.fails("style", INDEX, () -> x.style(player));
            Check.fails("score", INDEX, () -> x.score(0, 0, player));
            Check.fails("bisque", INDEX, () -> x.bisque(player));
            Check.fails("chance", INDEX, () -> x.chance(player, 1));
            Check.fails("best", INDEX, () -> x.best(player, 1, false));
            Check.fails("saves", INDEX, () -> x.saves(player, 1, 0));
            Check.fails("worth", INDEX, () -> x.worth(player, 0, 1));
            Check.fails("set", INDEX, () -> x.set(player, 1));
            Check.fails("ways, server", INDEX, () -> x.ways(player, 0, 0, 1));
            Check.fails("ways, winner", INDEX, () -> x.ways(0, player, 0, 1));
            Check.fails("ways, then", INDEX, () -> x.ways(0, 0, player, 1));
            Check.same("nothing changed", Check.all(x), Check.all(new ChaseCourt()));
        }
        for (int server = 0; server < 2; server++) {
            ChaseCourt x = new ChaseCourt();
            x.score(0, 0, server);
            Check.same("who serves", x.stands(2), server);
            x.rally(0, 0);
            Check.same("the point is the server's", x.stands(server) + " " + x.stands(1 - server), "1 0");
            x.rally(1, 0);
            Check.same("the point is the striker's", x.stands(server) + " " + x.stands(1 - server), "1 1");
        }
    }

    @Boundary.Says("LINES 0 to 9: a lesser one is better.")
    private static void terms1_lines0To9() {
        for (int line : new int[] {-1, 10, LEAST, MOST}) {
            ChaseCourt x = new ChaseCourt();
            Check.refused("rally", x, INDEX, () -> x.rally(2, line));
            Check.refused("worth", x, INDEX, () -> x.worth(0, line, 1));
        }
        for (int line : new int[] {0, 9}) {
            ChaseCourt x = new ChaseCourt();
            Check.same("worth", x.worth(0, line, 0), 0);
            Check.same("rally", x.rally(2, line), 0);
            Check.same("the chase", x.stands(4), line);
        }
        ChaseCourt x = Check.courtOf("club 1");
        x.rally(2, 1);
        Check.same("0 is better than 1: the striker's", x.rally(2, 0), 2);
        x.rally(2, 8);
        Check.same("9 is worse than 8: the server's", x.rally(2, 9), 1);
    }

    @Boundary.Says("STYLES 0 to 3 of who is at either END.")
    private static void terms1_styles0To3() {
        ChaseCourt x = new ChaseCourt();
        for (int style : new int[] {-1, 4, LEAST, MOST}) {
            Check.fails("look, server", INDEX, () -> x.look(style, 0, 0));
            Check.fails("look, striker", INDEX, () -> x.look(0, style, 0));
        }
        Check.same("3 and 3", x.look(3, 3, 0), 50);
        for (int style = 0; style < 4; style++) {
            ChaseCourt y = new ChaseCourt();
            y.plays(1, Check.rule(y, "style " + style));
            Check.same("style", y.style(1), style);
        }
    }

    @Boundary.Says("A RALLY by the STYLE S of the SERVER and H of the STRIKER: by chances in hundredths: WON by the SERVER, LOST by him, or DEAD at a LINE (at END 0).")
    private static void terms1_rallyByTheStylesOfServerAndStriker() {
        ChaseCourt x = Check.courtOf("rally 1 2 won 30;rally 1 2 lost 70;rally 2 1 won 80;rally 2 1 lost 20");
        Check.rule(x, "style 1");
        Check.rule(x, "style 2");
        x.plays(0, 0);
        x.plays(1, 1);
        x.score(3, 0, 0);
        Check.same("0 serves by 1, 1 strikes by 2", x.chance(0, 1), 300000000);
        x.score(3, 0, 1);
        Check.same("1 serves by 2, 0 strikes by 1", x.chance(0, 1), 200000000);
    }

    @Boundary.Says("(WON 50, LOST 50 at first, by all STYLES.)")
    private static void terms1_50And50AtFirst() {
        for (int server = 0; server < 4; server++) {
            ChaseCourt x = new ChaseCourt();
            for (int striker = 0; striker < 4; striker++) {
                Check.same(server + " " + striker, Check.chances(x, server, striker), "50 50 0 0 0 0 0 0 0 0 0 0");
            }
        }
    }

    // ---- Terms: texts of the court ----

    @Boundary.Says("THE COURT is told in texts (at most 12, one behind another):")
    private static void terms1_atMost12TextsOneBehindAnother() {
        ChaseCourt x = new ChaseCourt();
        for (int n = 1; n <= 11; n++) {
            Check.same("text " + n, Check.court(x, "games " + (1 + n % 6)), n);
            Check.same("the later one holds", x.count(2), 1 + n % 6);
        }
        Check.fails("a wrong text is not counted", ARGUMENT, () -> Check.court(x, "games"));
        Check.same("the 12th, without a LINE", Check.court(x, ""), 12);
        Check.same("11 texts told games 6", x.count(2), 6);
        Check.put(x, "club 1");
        Check.refused("a 13th", x, UNSUPPORTED, x::court);
        Check.put(x, "");
        Check.fails("a 13th without a LINE", UNSUPPORTED, x::court);
    }

    @Boundary.Says("LINE { ; LINE }, at most 12: rally S H won N | rally S H lost N | rally S H dead L N | games N | club N | even N.")
    private static void terms1_atMost12LinesOfTheCourt() {
        String eleven = "club 1;".repeat(10) + "club 1";
        Check.courtFault(eleven, -1);
        Check.courtFault(eleven + ";club 1", -1);
        Check.courtFault(eleven + ";club 1;club 1", eleven.length() + 8);
        Check.courtFault(eleven + ";club 1 ;   club 1", eleven.length() + 12);
        ChaseCourt x = Check.courtOf(eleven + ";club 2");
        Check.same("the 12th holds", x.count(3), 2);
        Check.courtFault("rally 0 0 won 50;rally 0 0 lost 50;rally 0 0 dead 0 0;games 1;club 0;even 0", -1);
        for (String line : new String[] {"rally 0 0 won 50", "rally 0 0 dead 3 0", "games 3", "club 1", "even 1"}) {
            for (int cut = 1; cut < line.length(); cut++) {
                String part = line.substring(0, cut);
                if (line.startsWith(part + " ")) {
                    Check.courtFault(part, cut);
                    Check.courtFault(part + " ", cut + 1);
                    Check.courtFault(part + ";" + line, cut);
                }
            }
            Check.courtFault(line + line, line.length());
            Check.courtFault(line + ";", line.length() + 1);
            Check.courtFault(";" + line, 0);
            Check.courtFault(line + ";;" + line, line.length() + 1);
        }
    }

    @Boundary.Says("S, H: 0 to 3; L: 0 to 9;")
    private static void terms1_stylesAndLinesOfATextOfTheCourt() {
        for (int style = 0; style < 4; style++) {
            Check.courtFault("rally " + style + " 0 won 50", -1);
            Check.courtFault("rally 0 " + style + " lost 50", -1);
        }
        Check.courtFault("rally 4 0 won 50", 6);
        Check.courtFault("rally 0 4 won 50", 8);
        Check.courtFault("rally 10 0 won 50", 6);
        Check.courtFault("rally 0 10 won 50", 8);
        for (int line = 0; line < 10; line++) {
            Check.courtFault("rally 0 0 dead " + line + " 0", -1);
        }
        Check.courtFault("rally 0 0 dead 10 0", 15);
        Check.courtFault("rally 0 0 dead 99 0", 15);
        ChaseCourt x = Check.courtOf("rally 3 0 won 40;rally 3 0 dead 0 10;rally 0 3 lost 30;rally 0 3 dead 9 20");
        Check.same("3 against 0", Check.chances(x, 3, 0), "40 50 10 0 0 0 0 0 0 0 0 0");
        Check.same("0 against 3", Check.chances(x, 0, 3), "50 30 0 0 0 0 0 0 0 0 0 20");
        Check.same("3 against 3", Check.chances(x, 3, 3), "50 50 0 0 0 0 0 0 0 0 0 0");
    }

    @Boundary.Says("N: of a rally 0 to 100 (that chance is N from then on);")
    private static void terms1_chances0To100() {
        Check.courtFault("rally 2 1 won 0;rally 2 1 lost 100", -1);
        Check.courtFault("rally 2 1 won 100;rally 2 1 lost 0", -1);
        Check.courtFault("rally 2 1 dead 4 100;rally 2 1 won 0;rally 2 1 lost 0", -1);
        Check.courtFault("rally 2 1 won 101;rally 2 1 lost 0", 14);
        Check.courtFault("rally 2 1 lost 101", 15);
        Check.courtFault("rally 2 1 dead 4 101", 17);
        Check.courtFault("rally 2 1 won -1", 14);
        ChaseCourt x = Check.courtOf("rally 2 1 won 0;rally 2 1 lost 100");
        Check.same("told", Check.chances(x, 2, 1), "0 100 0 0 0 0 0 0 0 0 0 0");
        Check.court(x, "club 1");
        Check.same("from then on", Check.chances(x, 2, 1), "0 100 0 0 0 0 0 0 0 0 0 0");
        Check.court(x, "rally 2 1 lost 1;rally 2 1 lost 99;rally 2 1 won 1");
        Check.same("N, not more of it", Check.chances(x, 2, 1), "1 99 0 0 0 0 0 0 0 0 0 0");
    }

    @Boundary.Says("games: 1 to 6 (GAMES of a SET; 1 at first);")
    private static void terms1_games1To6() {
        ChaseCourt x = new ChaseCourt();
        Check.same("at first", x.count(2), 1);
        for (int games = 1; games <= 6; games++) {
            Check.court(x, "games " + games);
            Check.same("games", x.count(2), games);
        }
        Check.courtFault("games 0", 6);
        Check.courtFault("games 7", 6);
        Check.courtFault("games 10", 6);
        Check.fails("a 7th", ARGUMENT, () -> Check.court(x, "games 7"));
        Check.same("as it was", x.count(2), 6);
    }

    @Boundary.Says("club: 0 to 2 (0 at first);")
    private static void terms1_club0To2() {
        ChaseCourt x = new ChaseCourt();
        Check.same("at first", x.count(3), 0);
        for (int club : new int[] {2, 1, 0, 2}) {
            Check.court(x, "club " + club);
            Check.same("club", x.count(3), club);
        }
        Check.courtFault("club 3", 5);
        Check.courtFault("club 10", 5);
        Check.fails("a 3rd", ARGUMENT, () -> Check.court(x, "club 3"));
        Check.same("as it was", x.count(3), 2);
    }

    @Boundary.Says("even: 0, 1 (0 at first).")
    private static void terms1_even0Or1() {
        ChaseCourt x = new ChaseCourt();
        Check.same("at first", x.count(4), 0);
        for (int even : new int[] {1, 0, 1}) {
            Check.court(x, "even " + even);
            Check.same("even", x.count(4), even);
        }
        Check.courtFault("even 2", 5);
        Check.courtFault("even 11", 5);
        Check.fails("2", ARGUMENT, () -> Check.court(x, "even 2"));
        Check.same("as it was", x.count(4), 1);
    }

    @Boundary.Says("All numbers are of 1 to 3 digits.")
    private static void terms1_numbersOf1To3Digits() {
        Check.courtFault("games 6;games 06;games 006", -1);
        Check.courtFault("games 0006", 6);
        Check.courtFault("games 00000000006", 6);
        Check.courtFault("games 4294967297", 6);
        Check.courtFault("rally 000 000 won 050;rally 000 000 lost 050;rally 003 003 dead 009 000", -1);
        Check.courtFault("rally 0000 0 won 50", 6);
        Check.courtFault("rally 0 0000 won 50", 8);
        Check.courtFault("rally 0 0 dead 0009 0", 15);
        Check.courtFault("rally 0 0 won 0050", 14);
        Check.courtFault("club 0001", 5);
        Check.courtFault("even 0001", 5);
        Check.courtFault("club 1/", 6);
        Check.courtFault("club 1:", 6);
        Check.courtFault("club /", 5);
        Check.courtFault("club :", 5);
    }

    @Boundary.Says("A text by which the chances of some S and H would not be 100 together (behind all of it) is wrong at its length.")
    private static void terms1_chancesMustBe100Together() {
        for (int pair = 0; pair < 16; pair++) {
            String head = "rally " + pair / 4 + " " + pair % 4;
            Check.courtFault(head + " won 49", 16);
            Check.courtFault(head + " won 51", 16);
            Check.courtFault(head + " dead 9 1", 18);
            Check.courtFault(head + " won 49;" + head + " dead 0 1", -1);
        }
        Check.courtFault("rally 0 0 won 49   ", 19);
        Check.courtFault("rally 0 0 won 49;club 1", 23);
        Check.courtFault("rally 0 0 won 49;rally 0 0 won 50", -1);
        Check.courtFault("rally 0 0 won 49;rally 0 1 won 51", 33);
        Check.courtFault("rally 0 0 won 49;rally 0 0 lost 51;rally 3 3 lost 100", 53);
        Check.courtFault("rally 0 0 won 49;club 3", 22);
        Check.courtFault("rally 0 0 won 49;", 17);
        String full = "rally 0 0 won 49;" + " ".repeat(377) + "club 1";
        Check.courtFault(full, 400);
        ChaseCourt x = Check.courtOf("rally 0 0 won 49;rally 0 0 lost 51");
        Check.fails("50 again alone", ARGUMENT, () -> Check.court(x, "rally 0 0 lost 50"));
        Check.same("with what is told", x.fault(), 17);
        Check.same("told again", Check.court(x, "rally 0 0 lost 51"), 2);
    }

    // ---- Terms: rules ----

    @Boundary.Says("RULES (at most 6, numbered from 0 on):")
    private static void terms1_atMost6RulesFrom0On() {
        ChaseCourt x = new ChaseCourt();
        for (int n = 0; n < 5; n++) {
            Check.same("rule " + n, Check.rule(x, "style " + (n + 1) % 4), n);
        }
        Check.fails("a wrong one has no number", ARGUMENT, () -> Check.rule(x, "style"));
        Check.same("the 6th, without a LINE", Check.rule(x, ""), 5);
        Check.put(x, "style 1");
        Check.refused("a 7th", x, UNSUPPORTED, x::rule);
        for (int n = 0; n < 5; n++) {
            x.plays(0, n);
            Check.same("each stays what it is", x.style(0), (n + 1) % 4);
        }
    }

    @Boundary.Says("texts: LINE { ; LINE }, at most 12: style N [ if C ] (N: 0 to 3).")
    private static void terms1_atMost12LinesOfARule() {
        String eleven = "style 1;".repeat(10) + "style 1";
        Check.ruleFault(eleven + ";style 1", -1);
        Check.ruleFault(eleven + ";style 1;style 1", eleven.length() + 9);
        Check.ruleFault(eleven + ";style 1 if off ;  style 1", eleven.length() + 19);
        Check.ruleFault(eleven + ";style 1;", eleven.length() + 9);
        Check.ruleFault(eleven + ";style 1;;", eleven.length() + 9);
        for (int style = 0; style < 4; style++) {
            Check.ruleFault("style " + style, -1);
        }
        Check.ruleFault("style 4", 6);
        Check.ruleFault("style 10", 6);
        Check.ruleFault("style", 5);
        Check.ruleFault("style if off", 6);
        Check.ruleFault("style 1 if", 10);
        Check.ruleFault("style 1 if ;style 2", 11);
        Check.ruleFault("style 1 off", 8);
        Check.ruleFault("style 1 2", 8);
        Check.ruleFault("style 1 style 2", 8);
        Check.ruleFault("if off", 0);
        Check.ruleFault(";style 1", 0);
        Check.ruleFault("style 1;;style 1", 8);
    }

    private static void holds(String condition, boolean due) {
        ChaseCourt x = new ChaseCourt();
        x.plays(0, Check.rule(x, "style 3 if " + condition));
        Check.same("'" + condition + "' holds", x.style(0) == 3, due);
    }

    @Boundary.Says("C: ALL { or ALL }; ALL: ATOM { and ATOM }; ATOM: not ATOM | ( C ) | serving | off | SUM ‹ SUM | SUM › SUM.")
    private static void terms1_conditions() {
        // PLAYER 0 serves, and nothing is played off: serving holds, off does not
        holds("serving", true);
        holds("off", false);
        holds("off or off", false);
        holds("off or off or serving", true);
        holds("serving and serving and off", false);
        holds("serving or off and off", true);
        holds("off and off or serving", true);
        holds("(serving or off) and off", false);
        holds("not off and off", false);
        holds("not (off and off)", true);
        holds("not off or serving", true);
        holds("not not serving", true);
        holds("not 1 < 1", true);
        holds("1 < 2", true);
        holds("1 < 1", false);
        holds("2 < 1", false);
        holds("2 > 1", true);
        holds("1 > 1", false);
        holds("1 > 2", false);
        String head = "style 1 if ";
        Check.ruleFault(head + "serving or", 21);
        Check.ruleFault(head + "serving and", 22);
        Check.ruleFault(head + "serving and or off", 23);
        Check.ruleFault(head + "serving serving", 19);
        Check.ruleFault(head + "not", 14);
        Check.ruleFault(head + "not and", 15);
        Check.ruleFault(head + "(off", 15);
        Check.ruleFault(head + "(off;", 15);
        Check.ruleFault(head + "()", 12);
        Check.ruleFault(head + "off)", 14);
        Check.ruleFault(head + "(off))", 16);
        Check.ruleFault(head + "1", 12);
        Check.ruleFault(head + "1 <", 14);
        Check.ruleFault(head + "1 < 2 < 3", 17);
        Check.ruleFault(head + "1 <> 2", 14);
        Check.ruleFault(head + "1 = 2", 13);
        Check.ruleFault(head + "off < 1", 15);
        Check.ruleFault(head + "1 < off", 15);
        Check.ruleFault(head + "1 < (2)", 15);
        Check.ruleFault(head + "(1) < 2", 13);
        Check.ruleFault(head + "1 < not 2", 15);
    }

    @Boundary.Says("SUM: PART { + PART }; PART: NUMBER | mine | his | line | chases | games.")
    private static void terms1_sums() {
        holds("mine + his + line + chases + games > 15", true);
        holds("mine + his + line + chases + games > 16", false);
        holds("mine+1<2+his", true);
        holds("mine+1<1+his", false);
        String many = "1+".repeat(150) + "1";
        holds(many + ">150", true);
        holds(many + ">151", false);
        String head = "style 1 if ";
        Check.ruleFault(head + "+1 < 2", 11);
        Check.ruleFault(head + "1 + < 2", 15);
        Check.ruleFault(head + "1 ++ 1 < 2", 14);
        Check.ruleFault(head + "1 < 2 +", 18);
        Check.ruleFault(head + "1 < 2 + off", 19);
        Check.ruleFault(head + "mine his < 2", 16);
        Check.ruleFault(head + "mine - 1 < 2", 16);
        Check.ruleFault(head + "club < 2", 11);
    }

    @Boundary.Says("NUMBER: 1 to 3 digits.")
    private static void terms1_numbersOfRules() {
        holds("999 > 998", true);
        holds("0 < 001", true);
        holds("999 + 999 + 999 > 999 + 999 + 998", true);
        Check.ruleFault("style 1 if 1000 > 1", 11);
        Check.ruleFault("style 1 if 0001 > 1", 11);
        Check.ruleFault("style 1 if 1 < 1000", 15);
        Check.ruleFault("style 1 if 1 < 1 + 0000", 19);
        Check.ruleFault("style 001 if 1 < 2", -1);
        Check.ruleFault("style 0001", 6);
    }

    // ---- Terms: how texts are read ----

    @Boundary.Says("Words are as long as a to z go on;")
    private static void terms1_wordsAreAsLongAsAToZGoOn() {
        Check.courtFault("clubs 1", 0);
        Check.courtFault("clu b 1", 0);
        Check.courtFault("club1", -1);
        Check.courtFault("club`1", 4);
        Check.courtFault("club{1", 4);
        Check.courtFault("cluB 1", 0);
        Check.courtFault("clubz1", 0);
        Check.courtFault("cluba1", 0);
        Check.courtFault("rally 0 0 wons 50", 10);
        Check.courtFault("rally0 0won50", -1);
        Check.ruleFault("style1if serving", -1);
        Check.ruleFault("style1ifserving", 6);
        Check.ruleFault("style 1 if notoff", 11);
        Check.ruleFault("style 1 if not(off)", -1);
        Check.ruleFault("style 1 if(off)or(off)and not off", -1);
        Check.ruleFault("style 1 if off oroff", 15);
        Check.ruleFault("style 1 if 1<2and 2<3", -1);
        Check.ruleFault("style 1 if 1<2or3<4", -1);
        Check.ruleFault("style 1 if minehis<4", 11);
    }

    @Boundary.Says("between all there may be blanks (32), also ahead and behind.")
    private static void terms1_blanks() {
        Check.courtFault("   rally   0   0   dead   9   0   ;   club   1   ", -1);
        Check.ruleFault("  style  1  if  (  not  1  +  1  <  2  )  ;  style 2  ", -1);
        Check.courtFault("c lub 1", 0);
        Check.courtFault("rally 0 0 won 5 0", 16);
        for (int sign : new int[] {0, 9, 10, 13, 31, 33, 160, 224, 255}) {
            Check.courtFault((char) sign + "club 1", 0);
            Check.courtFault("club" + (char) sign + "1", 4);
            Check.courtFault("club 1" + (char) sign, 6);
            Check.ruleFault("style 1" + (char) sign, 7);
        }
    }

    @Boundary.Says("A text that is empty, or blanks alone, has no LINE.")
    private static void terms1_emptyTexts() {
        for (int blanks : new int[] {0, 1, 19, 20, 400}) {
            Check.courtFault(" ".repeat(blanks), -1);
            Check.ruleFault(" ".repeat(blanks), -1);
        }
        ChaseCourt x = new ChaseCourt();
        x.plays(0, Check.rule(x, ""));
        Check.same("without a LINE", x.style(0), 0);
        Check.same("its number", x.plays(0, -1), 0);
    }

    @Boundary.Says("( and not within one another at most 6 deep.")
    private static void terms1_atMost6Deep() {
        String head = "style 1 if ";
        Check.ruleFault(head + "(".repeat(6) + "off" + ")".repeat(6), -1);
        Check.ruleFault(head + "(".repeat(7) + "off" + ")".repeat(7), 17);
        Check.ruleFault(head + "not ".repeat(6) + "off", -1);
        Check.ruleFault(head + "not ".repeat(7) + "off", 35);
        Check.ruleFault(head + "not(".repeat(3) + "off" + ")".repeat(3), -1);
        Check.ruleFault(head + "not(".repeat(3) + "not off" + ")".repeat(3), 23);
        Check.ruleFault(head + "(not ".repeat(3) + "(off)" + ")".repeat(3), 26);
        Check.ruleFault(head + "not not not not not not 1 < 2", -1);
        // those that stand beside one another are not within one another
        Check.ruleFault(head + "not off and not off and not off and not off and not off and not off and not off", -1);
        Check.ruleFault(head + "((((((off)))))) or ((((((off)))))) and not not not not not not off", -1);
        Check.ruleFault(head + "(((((off) or (off)) and (off)) and not off))", -1);
        Check.ruleFault(head + "((((((off) and not off)))))", -1);
        Check.ruleFault(head + "((((((off and not off))))))", 25);
        Check.ruleFault(head + "((((((off))))));style 2 if (((((((off)))))))", 44);
    }

    @Boundary.Says({"The first wrong byte: the begin of the first thing that cannot stand there",
        "(a number of more digits, or out of its bounds; a word that is none; the ( or not that is a 7th one deep; of a 13th LINE its first word),",
        "or the text's length, if more must come."})
    private static void terms1_firstWrongByte() {
        Check.courtFault("?", 0);
        Check.courtFault("   ?", 3);
        Check.courtFault("club 1 ; club ? ; club ?", 14);
        Check.courtFault("rally 0 0 won 1000", 14);
        Check.courtFault("rally 0 0 won 999", 14);
        Check.courtFault("rally 0 0 none 50", 10);
        Check.courtFault("rally 0 0 dead 5 won", 17);
        Check.ruleFault("style 1 if none", 11);
        Check.ruleFault("style 1 if (off and (off or (not (not off ) ) ) )", -1);
        Check.ruleFault("style 1 if (off and (off or (not (not ( off ) ) ) ) )", 38);
        Check.ruleFault("style 1 if (off and (off or (not (not not off ) ) ) )", 38);
        Check.courtFault("even 1;".repeat(12) + "even 1", 84);
        Check.courtFault("even 1;".repeat(12) + "   even 1", 87);
        // of a 13th LINE that is none either way
        Check.courtFault("even 1;".repeat(12) + "?", 84);
        Check.courtFault("even 1;".repeat(12), 84);
        Check.courtFault("even 1;".repeat(12) + "  ", 86);
        Check.courtFault("rally", 5);
        Check.courtFault("rally     ", 10);
        Check.courtFault("club 1;", 7);
        Check.courtFault("club 1 ; ", 9);
        Check.ruleFault("style 1 if off and ( off ", 25);
        Check.courtFault(" ".repeat(399) + "?", 399);
        Check.courtFault(" ".repeat(396) + "club", 400);
    }

    private static final String[] THINGS = {"rally", "won", "lost", "dead", "games", "club", "even", "style", "if", "or", "and",
        "not", "serving", "off", "mine", "his", "line", "chases", "player", "a", "1", ";", "(", ")", "+", "<", ">", "=", "-", "{", "S"};

    /** Of all things those alone can stand behind the text: each other one is wrong where it begins. */
    private static void canStand(boolean rule, String text, String... allowed) {
        for (String thing : THINGS) {
            String whole = text + " " + thing;
            ChaseCourt x = new ChaseCourt();
            Check.put(x, whole);
            try {
                int number = rule ? x.rule() : x.court();
                Check.same("'" + whole + "' is right", number, rule ? 0 : 1);
            } catch (IllegalArgumentException e) {
                Check.same("'" + whole + "' is wrong somewhere", x.fault() >= 0, true);
            }
            boolean may = java.util.Arrays.asList(allowed).contains(thing);
            Check.same("'" + whole + "' is wrong there", x.fault() == text.length() + 1, !may);
        }
    }

    @Boundary.Says("The first wrong byte: the begin of the first thing that cannot stand there")
    private static void terms1_whatCanStandInATextOfTheCourt() {
        canStand(false, "", "rally", "games", "club", "even");
        canStand(false, "club 1 ;", "rally", "games", "club", "even");
        for (String text : new String[] {"rally", "rally 0", "rally 0 0 won", "rally 0 0 lost", "rally 0 0 dead", "rally 0 0 dead 1",
            "games", "club", "even"}) {
            canStand(false, text, "1");
        }
        canStand(false, "rally 0 0", "won", "lost", "dead");
        for (String text : new String[] {"rally 0 0 won 50", "rally 0 0 lost 50", "rally 0 0 dead 1 0", "games 1", "club 1", "even 1"}) {
            canStand(false, text, ";");
        }
    }

    @Boundary.Says("The first wrong byte: the begin of the first thing that cannot stand there")
    private static void terms1_whatCanStandInARule() {
        canStand(true, "", "style");
        canStand(true, "style 1 ;", "style");
        canStand(true, "style 1 if off ;", "style");
        canStand(true, "style", "1");
        canStand(true, "style 1", "if", ";");
        for (String text : new String[] {"if", "if not", "if (", "if off and", "if off or", "if ( not", "if off or ( off and"}) {
            canStand(true, "style 1 " + text, "not", "(", "serving", "off", "1", "mine", "his", "line", "chases", "games");
        }
        for (String text : new String[] {"off", "serving", "( off )", "not off", "off and off", "off or off"}) {
            canStand(true, "style 1 if " + text, "and", "or", ";");
            canStand(true, "style 1 if ( " + text, "and", "or", ")");
        }
        for (String part : new String[] {"mine", "his", "line", "chases", "games", "7", "mine + 7"}) {
            canStand(true, "style 1 if " + part, "+", "<", ">");
            canStand(true, "style 1 if " + part + " +", "1", "mine", "his", "line", "chases", "games");
            canStand(true, "style 1 if " + part + " <", "1", "mine", "his", "line", "chases", "games");
            canStand(true, "style 1 if 7 > " + part, "+", "and", "or", ";");
            canStand(true, "style 1 if ( 7 > " + part, "+", "and", "or", ")");
        }
    }

    @Boundary.Says("Of a wrong text nothing stays.")
    private static void terms1_ofAWrongTextNothingStays() {
        String told = "games 4;club 2;even 1;rally 0 0 won 40;rally 0 0 lost 60";
        String[] wrong = {";", "?", ";club 3", ";rally 0 0 lost 61", ";games", ";club 1;club 1;club 1;club 1;club 1;club 1;club 1;club 1"};
        for (String tail : wrong) {
            ChaseCourt x = Check.courtOf("games 2;club 1");
            String before = Check.stands(x) + Check.counts(x) + Check.chances(x, 0, 0);
            Check.fails("'" + tail + "'", ARGUMENT, () -> Check.court(x, told + tail));
            Check.same("nothing stays of '" + tail + "'", Check.stands(x) + Check.counts(x) + Check.chances(x, 0, 0), before);
            Check.same("the next text is read by itself", Check.court(x, "even 1"), 2);
            Check.same("and it alone", Check.counts(x), "2 0 2 1 1 0 0");
        }
        ChaseCourt x = new ChaseCourt();
        Check.fails("a rule", ARGUMENT, () -> Check.rule(x, "style 1;style 2 if off or"));
        Check.fails("has no number", INDEX, () -> x.plays(0, 0));
        Check.same("the next rule", Check.rule(x, "style 3"), 0);
        x.plays(0, 0);
        Check.same("is read by itself", x.style(0), 3);
    }

    // ---- Terms: what rules ask ----

    private static boolean asks(ChaseCourt x, int player, String condition) {
        int was = x.plays(player, -1);
        x.plays(player, Check.rule(x, "style 1 if " + condition));
        boolean holds = x.style(player) == 1;
        x.plays(player, was);
        return holds;
    }

    /** That a part is so much: by the two numbers beside it. */
    private static void part(ChaseCourt x, int player, String part, int due) {
        boolean is = due == 0 ? asks(x, player, part + " < 1")
            : asks(x, player, part + " > " + (due - 1) + " and " + part + " < " + (due + 1));
        Check.same(part + " of player " + player + " is " + due, is, true);
    }

    @Boundary.Says("mine, his: POINTS and 3;")
    private static void terms1_mineAndHisArePointsAnd3() {
        int[][] points = {{-3, 3}, {4, 3}, {3, 4}, {0, -3}};
        for (int[] p : points) {
            ChaseCourt x = new ChaseCourt();
            x.score(p[0], p[1], 0);
            part(x, 0, "mine", p[0] + 3);
            part(x, 0, "his", p[1] + 3);
            part(x, 1, "mine", p[1] + 3);
            part(x, 1, "his", p[0] + 3);
        }
    }

    @Boundary.Says("line: the LINE of the CHASE that is played off, else of the latest that stands, 10 without;")
    private static void terms1_lineIs10Without() {
        ChaseCourt x = new ChaseCourt();
        part(x, 0, "line", 10);
        x.rally(2, 9);
        part(x, 0, "line", 9);
        x.rally(2, 0);
        part(x, 1, "line", 9);
        x.rally(2, 9);
        part(x, 1, "line", 0);
        x.rally(2, 0);
        part(x, 1, "line", 10);
    }

    @Boundary.Says("chases: how many there are;")
    private static void terms1_chasesAre0To2() {
        ChaseCourt x = new ChaseCourt();
        part(x, 0, "chases", 0);
        x.rally(2, 4);
        part(x, 0, "chases", 1);
        x.rally(2, 5);
        part(x, 1, "chases", 2);
        x.rally(0, 0);
        part(x, 1, "chases", 1);
        x.rally(0, 0);
        part(x, 1, "chases", 0);
    }

    @Boundary.Says("games: the GAMES he has;")
    private static void terms1_gamesAreHis() {
        ChaseCourt x = new ChaseCourt();
        x.games(0, 6);
        part(x, 0, "games", 0);
        part(x, 1, "games", 6);
        x.games(6, 1);
        part(x, 0, "games", 6);
        part(x, 1, "games", 1);
    }

    @Boundary.Says("serving: he is the SERVER; off: a CHASE is played off.")
    private static void terms1_servingAndOff() {
        ChaseCourt x = Check.courtOf("club 1");
        x.score(0, 0, 1);
        Check.same("0 strikes", asks(x, 0, "serving"), false);
        Check.same("1 serves", asks(x, 1, "serving"), true);
        Check.same("none is played off", asks(x, 0, "off"), false);
        x.rally(2, 4);
        Check.same("ends are changed", asks(x, 0, "serving"), true);
        Check.same("one is played off", asks(x, 0, "off"), true);
        Check.same("for both", asks(x, 1, "off"), true);
        ChaseCourt y = Check.courtOf("club 2");
        y.rally(2, 4);
        Check.same("one that stands is not", asks(y, 0, "off"), false);
    }

    @Boundary.Says("A PLAYER by a RULE (or none at first: STYLE 0) takes the STYLE of the first LINE that holds, 0 without.")
    private static void terms1_theFirstLineThatHolds() {
        ChaseCourt x = new ChaseCourt();
        Check.same("none at first", x.plays(0, -1) + " " + x.plays(1, -1), "-1 -1");
        Check.same("style 0", x.style(0) + " " + x.style(1), "0 0");
        x.plays(0, Check.rule(x, "style 1 if off;style 2 if serving;style 3 if serving"));
        Check.same("the first that holds", x.style(0), 2);
        x.plays(0, Check.rule(x, "style 1 if off;style 2 if not serving"));
        Check.same("0 without", x.style(0), 0);
        x.plays(0, Check.rule(x, "style 2 if off;".repeat(11) + "style 3 if serving"));
        Check.same("the 12th", x.style(0), 3);
        x.plays(0, Check.rule(x, "style 1;style 2"));
        Check.same("one without a condition holds", x.style(0), 1);
    }

    // ---- Promises 1 to 9 ----

    @Boundary.Says("`ChaseCourt()`: PLAYER 0 at END 0; nothing told.")
    private static void promise01_nothingTold() {
        ChaseCourt x = new ChaseCourt();
        Check.same("all", Check.all(x), "player 0 by -1 style 0, player 1 by -1 style 0, stands 0 0 0 0 -1 -1 0 0 0 0,"
            + " counts 0 0 1 0 0 0 0, chances 50 50 0 0 0 0 0 0 0 0 0 0, fault -1");
        Check.tapeHas("the tape", x, 0);
        Check.same("no image", x.back(), false);
        ChaseCourt other = new ChaseCourt();
        Check.court(other, "games 6");
        Check.same("objects have nothing in common", x.count(2), 1);
    }

    @Boundary.Says({"Twenty bytes come behind the TAPE, of each number the highest first: how many it has;",
        "NONE, and none come, if it would have more than 400."})
    private static void promise02_noneComeAbove400() {
        ChaseCourt x = new ChaseCourt();
        for (int n = 1; n <= 20; n++) {
            Check.same("feed " + n, x.feed(0x20202020, 0x20202020, 0x20202020, 0x20202020, 0x20202020), 20 * n);
        }
        Check.same("420", x.feed(-1, -1, -1, -1, -1), -1);
        Check.tapeHas("none came", x, 400);
        Check.same("400 blanks", x.court(), 1);
        for (int length : new int[] {381, 399, 400}) {
            ChaseCourt y = new ChaseCourt();
            Check.put(y, " ".repeat(length));
            Check.same("behind " + length, y.feed(-1, -1, -1, -1, -1), -1);
            Check.tapeHas("none came", y, length);
            Check.same("blanks alone", y.rule(), 0);
        }
        ChaseCourt z = new ChaseCourt();
        Check.put(z, " ".repeat(380));
        Check.same("behind 380", z.feed(-1, -1, -1, -1, -1), 400);
        Check.fails("they came", ARGUMENT, z::court);
        Check.same("behind the blanks", z.fault(), 380);
    }

    @Boundary.Says("of each number the highest first")
    private static void promise02_theHighestByteFirst() {
        ChaseCourt x = new ChaseCourt();
        x.feed(0x72616c6c, 0x79203020, 0x3020776f, 0x6e203530, 0x20202020);
        Check.same("rally 0 0 won 50", x.court(), 1);
        // each of the twenty bytes in its place: a wrong one is found there
        for (int place = 0; place < 20; place++) {
            int[] n = new int[5];
            for (int i = 0; i < 20; i++) {
                n[i / 4] = n[i / 4] << 8 | (i == place ? 255 : 32);
            }
            x.feed(n[0], n[1], n[2], n[3], n[4]);
            Check.fails("a wrong byte", ARGUMENT, x::court);
            Check.same("its place", x.fault(), place);
        }
    }

    @Boundary.Says({"The TAPE has its first n bytes alone: true;", "false, and nothing happens, if it has fewer, or n is below 0."})
    private static void promise03_end() {
        ChaseCourt x = new ChaseCourt();
        Check.same("0 of none", x.end(0), true);
        Check.same("1 of none", x.end(1), false);
        x.feed(0x636c7562, 0x20317820, 0, 0, 0);
        for (int n : new int[] {-1, LEAST, 21, 401, MOST}) {
            Check.same("end " + n, x.end(n), false);
        }
        Check.tapeHas("nothing happened", x, 20);
        Check.same("6", x.end(6), true);
        Check.same("7 are there no more", x.end(7), false);
        Check.same("the first 6", x.court(), 1);
        Check.same("club 1", x.count(3), 1);
        x.feed(0, 0, 0, 0, 0);
        Check.same("none", x.end(0), true);
        Check.tapeHas("none", x, 0);
        Check.same("20 come behind none", x.feed(0, 0, 0, 0, 0), 20);
    }

    @Boundary.Says({"Uses the TAPE up: a text of THE COURT: how many there are.", "IllegalArgumentException: it is wrong; UnsupportedOperationException: there are 12."})
    private static void promise04_court() {
        ChaseCourt x = new ChaseCourt();
        Check.same("of no bytes", x.court(), 1);
        Check.same("the first", Check.court(x, "club 1"), 2);
        Check.tapeHas("it is used up", x, 0);
        String before = Check.held(x);
        Check.put(x, "club 3");
        Check.fails("wrong", ARGUMENT, x::court);
        Check.tapeHas("it is used up by a wrong one", x, 0);
        Check.same("nothing changed", Check.held(x), before);
        for (int n = 3; n <= 12; n++) {
            Check.same("text", Check.court(x, "club 1"), n);
        }
        before = Check.held(x);
        Check.put(x, "club 2");
        Check.fails("there are 12", UNSUPPORTED, x::court);
        Check.tapeHas("it is used up by one too many", x, 0);
        Check.put(x, "club 3");
        Check.fails("wrong is told first", ARGUMENT, x::court);
        Check.tapeHas("it is used up", x, 0);
        Check.put(x, "rally 0 0 won 49");
        Check.fails("wrong at its length is told first", ARGUMENT, x::court);
        Check.same("nothing changed", Check.held(x), before);
    }

    @Boundary.Says("Uses the TAPE up: a text of THE COURT:")
    private static void promise04_aTextOf400Bytes() {
        Check.courtFault("club 1" + " ".repeat(387) + ";club 2", -1);
        Check.courtFault(" ".repeat(394) + "club 1", -1);
        Check.courtFault(" ".repeat(395) + "club1", -1);
        Check.courtFault(" ".repeat(394) + "club 3", 399);
        // as many things as bytes
        Check.courtFault(";".repeat(400), 0);
        Check.courtFault("z".repeat(400), 0);
        Check.courtFault("1".repeat(400), 0);
        Check.courtFault("club" + "1".repeat(396), 4);
    }

    @Boundary.Says("Uses the TAPE up: a RULE:")
    private static void promise05_aRuleOf400Bytes() {
        String sum = "style 1 if " + "1+".repeat(193) + "1<9";
        Check.ruleFault(sum, -1);
        Check.ruleFault(sum.substring(0, 398) + "+9", 400);
        Check.ruleFault(sum.substring(0, 398) + "<+", 399);
        Check.ruleFault("(".repeat(400), 0);
        Check.ruleFault("style 1 if " + "(".repeat(389), 17);
        ChaseCourt x = new ChaseCourt();
        x.plays(0, Check.rule(x, sum));
        Check.same("194 are not below 9", x.style(0), 0);
        x.plays(0, Check.rule(x, sum.replace('<', '>')));
        Check.same("194 are above 9", x.style(0), 1);
        x.plays(0, Check.rule(x, "style 2 if " + "not off or ".repeat(35) + "off"));
        Check.same("one of 36 is enough", x.style(0), 2);
        x.plays(0, Check.rule(x, "style 2 if " + "not off and ".repeat(32) + "off"));
        Check.same("one of 33 is too many", x.style(0), 0);
        // six levels, in each of which an "or" and an "and" wait for what is inside
        x.plays(0, Check.rule(x, "style 3 if " + "off or 1>0 and (".repeat(6) + "off or 1>0 and 1+1<1+1+1" + ")".repeat(6)));
        Check.same("six deep", x.style(0), 3);
    }

    @Boundary.Says({"Uses the TAPE up: a RULE: its number.", "IllegalArgumentException: the text is wrong; UnsupportedOperationException: there are 6."})
    private static void promise05_rule() {
        ChaseCourt x = new ChaseCourt();
        Check.same("of no bytes", x.rule(), 0);
        Check.same("the next", Check.rule(x, "style 1"), 1);
        Check.tapeHas("it is used up", x, 0);
        String before = Check.held(x);
        Check.put(x, "style 4");
        Check.fails("wrong", ARGUMENT, x::rule);
        Check.tapeHas("it is used up by a wrong one", x, 0);
        Check.same("nothing changed", Check.held(x), before);
        for (int n = 2; n <= 5; n++) {
            Check.same("rule", Check.rule(x, "style 1"), n);
        }
        before = Check.held(x);
        Check.put(x, "style 2");
        Check.fails("there are 6", UNSUPPORTED, x::rule);
        Check.tapeHas("it is used up by one too many", x, 0);
        Check.put(x, "style 4");
        Check.fails("wrong is told first", ARGUMENT, x::rule);
        Check.tapeHas("it is used up", x, 0);
        Check.same("nothing changed", Check.held(x), before);
        Check.fails("there is no 7th", INDEX, () -> x.plays(0, 6));
    }

    @Boundary.Says("The first wrong byte of the latest text that was read; NONE without one, and ahead of any.")
    private static void promise06_faultOfTheLatestText() {
        ChaseCourt x = new ChaseCourt();
        Check.same("ahead of any", x.fault(), -1);
        Check.fails("wrong", ARGUMENT, () -> Check.court(x, "club 3"));
        Check.same("of the court", x.fault(), 5);
        Check.same("as often as it is asked", x.fault(), 5);
        Check.fails("wrong", ARGUMENT, () -> Check.rule(x, "?"));
        Check.same("of a rule, at 0", x.fault(), 0);
        Check.rule(x, "style 1");
        Check.same("without one", x.fault(), -1);
        Check.fails("wrong", ARGUMENT, () -> Check.rule(x, "style"));
        Check.court(x, "");
        Check.same("without one", x.fault(), -1);
        Check.fails("wrong", ARGUMENT, () -> Check.rule(x, " ".repeat(396) + "none"));
        Check.same("far behind", x.fault(), 396);
        Check.fails("wrong", ARGUMENT, () -> Check.rule(x, " ".repeat(395) + "style"));
        Check.same("the length of a full tape", x.fault(), 400);
        x.feed(-1, -1, -1, -1, -1);
        x.end(5);
        Check.same("bytes alone change nothing", x.fault(), 400);
    }

    @Boundary.Says("The first wrong byte of the latest text that was read;")
    private static void promise06_aTextThatIsOneTooManyWasRead() {
        ChaseCourt x = new ChaseCourt();
        for (int n = 0; n < 12; n++) {
            Check.court(x, "");
        }
        for (int n = 0; n < 6; n++) {
            Check.rule(x, "");
        }
        Check.fails("wrong", ARGUMENT, () -> Check.court(x, "club 3"));
        Check.same("wrong", x.fault(), 5);
        Check.fails("a 13th", UNSUPPORTED, () -> Check.court(x, "club 1"));
        Check.same("it is right", x.fault(), -1);
        Check.fails("wrong", ARGUMENT, () -> Check.rule(x, "style 4"));
        Check.same("wrong", x.fault(), 6);
        Check.fails("a 7th", UNSUPPORTED, () -> Check.rule(x, "style 1"));
        Check.same("it is right", x.fault(), -1);
    }

    @Boundary.Says("Chance by STYLES: what 0 WON, 1 LOST, 2 and on DEAD at LINE what less 2. NoSuchElementException: another what.")
    private static void promise07_look() {
        StringBuilder text = new StringBuilder("rally 1 3 won 5;rally 1 3 lost 50");
        for (int line = 0; line < 10; line++) {
            text.append(";rally 1 3 dead ").append(line).append(' ').append(line);
        }
        ChaseCourt x = Check.courtOf(text.toString());
        Check.same("all whats", Check.chances(x, 1, 3), "5 50 0 1 2 3 4 5 6 7 8 9");
        Check.same("not the other way round", x.look(3, 1, 0), 50);
        for (int what : new int[] {-1, 12, LEAST, MOST}) {
            Check.fails("what " + what, ELEMENT, () -> x.look(1, 3, what));
            Check.fails("the style is told first", INDEX, () -> x.look(4, 3, what));
            Check.fails("the style is told first", INDEX, () -> x.look(1, -1, what));
        }
    }

    @Boundary.Says("A PLAYER by a RULE (NONE: none): which it was.")
    private static void promise08_plays() {
        ChaseCourt x = new ChaseCourt();
        Check.refused("0 of no rules", x, INDEX, () -> x.plays(0, 0));
        Check.same("none of no rules", x.plays(1, -1), -1);
        Check.rule(x, "style 1");
        Check.rule(x, "style 2");
        Check.refused("2 of two rules", x, INDEX, () -> x.plays(0, 2));
        Check.refused("below none", x, INDEX, () -> x.plays(0, -2));
        Check.same("the last of two", x.plays(0, 1), -1);
        Check.same("the other plays by none", x.plays(1, -1), -1);
        Check.refused("as it was", x, INDEX, () -> x.plays(0, MOST));
        Check.same("the same once more", x.plays(0, 1), 1);
        Check.same("0", x.plays(0, 0), 1);
        Check.same("none", x.plays(0, -1), 0);
        Check.same("none once more", x.plays(0, -1), -1);
    }

    @Boundary.Says("A PLAYER by a RULE (NONE: none): which it was.")
    private static void promise08_rulesThatBackTookAway() {
        ChaseCourt x = new ChaseCourt();
        x.image();
        x.plays(0, Check.rule(x, "style 1"));
        x.back();
        Check.fails("there is no such rule", INDEX, () -> x.plays(1, 0));
        Check.same("he plays by none again", x.plays(0, -1) + " " + x.style(0), "-1 0");
        for (int n = 0; n < 6; n++) {
            Check.rule(x, "style 2");
        }
        Check.same("the last of six", x.plays(1, 5) + " " + x.style(1), "-1 2");
        Check.fails("a 7th", INDEX, () -> x.plays(1, 6));
    }

    @Boundary.Says("The STYLE that a PLAYER takes now.")
    private static void promise09_styleNow() {
        ChaseCourt x = new ChaseCourt();
        x.plays(0, Check.rule(x, "style 3 if mine > his and serving;style 2 if games > 0"));
        Check.same("at first", x.style(0), 0);
        x.rally(0, 0);
        Check.same("a point more", x.style(0), 3);
        Check.same("the other by none", x.style(1), 0);
        x.plays(1, 0);
        Check.same("the other by the same rule", x.style(1), 0);
        x.games(1, 6);
        Check.same("also when the set is over", x.style(0) + " " + x.style(1), "3 2");
        x.score(0, 0, 1);
        Check.same("as the score is now", x.style(0), 2);
        Check.refused("player 2", x, INDEX, () -> x.style(2));
        Check.refused("player -1", x, INDEX, () -> x.style(-1));
    }
}
