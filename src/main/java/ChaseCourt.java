import java.util.Arrays;
import java.util.NoSuchElementException;

/** Tennis in a walled court: chases, styles by rules, chances, handicaps, logs and matches by draws. */
public final class ChaseCourt {
    public static final int NONE = -1;

    private static final int WHOLE = 1000000000;
    private static final int HALF = 500000000;
    private static final int NO_WORTH = -2000000000;
    private static final int MOST_BYTES = 400;
    private static final int MOST_COURTS = 12;
    private static final int MOST_RULES = 6;
    private static final int MOST_TEXT_LINES = 12;
    private static final int MOST_RALLIES = 30;
    private static final int MOST_PLAYED = 200;
    private static final int MOST_GAMES = 6;
    private static final int MOST_HANDICAP = 3;
    private static final int MOST_DEPTH = 6;
    private static final int MOST_MILLIONTHS = 500000;
    private static final int LINES = 10;
    private static final int STYLES = 4;
    private static final int PAIRS = 16;
    /** Of one pair of styles: won, lost, and dead at each line. */
    private static final int OUTCOMES = 12;
    /** Who wins a game, times two, and who is at end 0 then. */
    private static final int WAYS = 4;
    private static final int TOLD = 10;

    private static final int WON = 0;
    private static final int LOST = 1;
    private static final int DEAD = 2;
    private static final int NOBODY = 0;
    private static final int SERVER = 1;
    private static final int STRIKER = 2;

    private final byte[] tape = new byte[MOST_BYTES];
    private final Scanner scanner = new Scanner();
    private final Laws draft = new Laws();
    private final Stand now = new Stand();
    /** A score to try things on, so that nothing stays of them. */
    private final Score trial = new Score();
    private Stand kept;
    private Odds odds;
    private Mender mender;
    private RuleReader ruleReader;
    private int bytes;
    private int wrong = NONE;

    public ChaseCourt() {
    }

    public int feed(int a, int b, int c, int d, int e) {
        if (bytes + 20 > MOST_BYTES) {
            return NONE;
        }
        append(a);
        append(b);
        append(c);
        append(d);
        append(e);
        return bytes;
    }

    private void append(int number) {
        for (int shift = 24; shift >= 0 && bytes < MOST_BYTES; shift -= 8) {
            tape[bytes++] = (byte) (number >> shift);
        }
    }

    public boolean end(int n) {
        if (n < 0 || n > bytes) {
            return false;
        }
        bytes = n;
        return true;
    }

    public int court() throws IllegalArgumentException, UnsupportedOperationException {
        scanner.scan(tape, useUp());
        draft.takeFrom(now.laws);
        wrong = draft.readText(scanner);
        if (wrong != NONE) {
            throw new IllegalArgumentException("the text of the court is wrong");
        }
        if (now.laws.texts >= MOST_COURTS) {
            throw new UnsupportedOperationException("there are 12 texts of the court");
        }
        draft.texts++;
        now.laws.takeFrom(draft);
        return now.laws.texts;
    }

    public int rule() throws IllegalArgumentException, UnsupportedOperationException {
        scanner.scan(tape, useUp());
        if (ruleReader == null) {
            ruleReader = new RuleReader();
        }
        wrong = ruleReader.read(scanner);
        if (wrong != NONE) {
            throw new IllegalArgumentException("the text of the rule is wrong");
        }
        if (now.rules.number >= MOST_RULES) {
            throw new UnsupportedOperationException("there are 6 rules");
        }
        return now.rules.add(ruleReader.written());
    }

    public int fault() {
        return wrong;
    }

    public int look(int server, int striker, int what) throws IndexOutOfBoundsException, NoSuchElementException {
        if (server < 0 || server >= STYLES || striker < 0 || striker >= STYLES) {
            throw new IndexOutOfBoundsException("there is no such style");
        }
        needWhat(what, OUTCOMES);
        return now.laws.chances[(server * STYLES + striker) * OUTCOMES + what];
    }

    public int plays(int player, int rule) throws IndexOutOfBoundsException {
        needPlayer(player);
        if (rule < NONE || rule >= now.rules.number) {
            throw new IndexOutOfBoundsException("there is no such rule");
        }
        int before = now.rules.by[player];
        now.rules.by[player] = rule;
        return before;
    }

    public int style(int player) throws IndexOutOfBoundsException {
        needPlayer(player);
        return now.rules.styleOf(player, now.score);
    }

    public void score(int first, int second, int server) throws IndexOutOfBoundsException, IllegalArgumentException {
        needPlayer(server);
        boolean usual = first >= -3 && first <= 3 && second >= -3 && second <= 3;
        boolean ahead = first == 4 && second == 3 || first == 3 && second == 4;
        if (!usual && !ahead) {
            throw new IllegalArgumentException("there are no such points");
        }
        now.score.restart(first, second, server);
    }

    public void games(int first, int second) throws IllegalArgumentException {
        if (first < 0 || first > MOST_GAMES || second < 0 || second > MOST_GAMES) {
            throw new IllegalArgumentException("games are 0 to 6");
        }
        now.score.firstGames = first;
        now.score.secondGames = second;
    }

    public void begin(int owed, int given) throws IllegalArgumentException {
        if (owed < 0 || owed > MOST_HANDICAP || given < 0 || given > MOST_HANDICAP) {
            throw new IllegalArgumentException("a handicap is 0 to 3");
        }
        now.score.owed = owed;
        now.score.given = given;
    }

    public int stands(int what) throws NoSuchElementException {
        needWhat(what, TOLD);
        return now.score.tell(what);
    }

    public int rally(int how, int line) throws IndexOutOfBoundsException, IllegalArgumentException, IllegalStateException {
        if (how == DEAD) {
            needLine(line);
        }
        if (how < WON || how > DEAD) {
            throw new IllegalArgumentException("a rally is won, lost or dead");
        }
        needGoingOn(now.score);
        return now.score.strike(how, line, now.laws);
    }

    public boolean bisque(int player) throws IndexOutOfBoundsException, IllegalStateException {
        needPlayer(player);
        needGoingOn(now.score);
        return now.score.takeBisque(player, now.laws);
    }

    public int chance(int player, int rallies) throws IndexOutOfBoundsException, IllegalArgumentException, IllegalStateException {
        needPlayer(player);
        needRallies(rallies);
        needGoingOn(now.score);
        Odds asked = freshOdds(NONE, NONE);
        int here = asked.placeOf(now.score);
        asked.spreadAll(rallies);
        asked.weighAll(rallies, waysOf(player));
        return asked.valueAt(here);
    }

    public int best(int player, int rallies, boolean style) throws IndexOutOfBoundsException, IllegalArgumentException, IllegalStateException {
        needPlayer(player);
        needRallies(rallies);
        needGoingOn(now.score);
        Odds asked = freshOdds(player, NONE);
        int here = asked.placeOf(now.score);
        asked.spreadAll(rallies);
        asked.weighAll(rallies, waysOf(player));
        if (!style) {
            return asked.valueAt(here);
        }
        return rallies == 0 ? NONE : asked.choiceAt(here);
    }

    public int saves(int player, int rallies, int what) throws IndexOutOfBoundsException, IllegalArgumentException, IllegalStateException, NoSuchElementException {
        needPlayer(player);
        needRallies(rallies);
        needGoingOn(now.score);
        needWhat(what, 3);
        if (rallies == 0) {
            return 0;
        }
        Odds asked = freshOdds(NONE, player);
        int here = asked.placeOf(now.score);
        asked.spreadAll(rallies);
        asked.weighAll(rallies, waysOf(player));
        if (what == 1) {
            return asked.takesAt(here) ? 1 : 0;
        }
        int saved = asked.savedAt(here);
        return what == 0 ? saved : saved - asked.valueAt(here);
    }

    public int worth(int player, int line, int rallies) throws IndexOutOfBoundsException, IllegalArgumentException, IllegalStateException {
        needPlayer(player);
        needLine(line);
        needRallies(rallies);
        needGoingOn(now.score);
        if (now.score.off) {
            return NO_WORTH;
        }
        trial.takeFrom(now.score);
        trial.strike(DEAD, line, now.laws);
        Odds asked = freshOdds(NONE, NONE);
        int here = asked.placeOf(now.score);
        int there = asked.placeOf(trial);
        asked.spreadAll(rallies);
        asked.weighAll(rallies, waysOf(player));
        return asked.valueAt(there) - asked.valueAt(here);
    }

    public int set(int player, int rallies) throws IndexOutOfBoundsException, IllegalArgumentException, IllegalStateException {
        needPlayer(player);
        needRallies(rallies);
        needGoingOn(now.score);
        Odds asked = freshOdds(NONE, NONE);
        int here = asked.placeOf(now.score);
        int first = asked.placeOf(newGame(0));
        int second = asked.placeOf(newGame(1));
        asked.spreadAll(rallies);
        SetOdds whole = new SetOdds();
        for (int way = 0; way < WAYS; way++) {
            asked.weighAll(rallies, 1 << way);
            whole.here[way] = asked.valueAt(here);
            whole.fresh[way] = asked.valueAt(first);
            whole.fresh[WAYS + way] = asked.valueAt(second);
        }
        return whole.chanceOf(player, now);
    }

    public int ways(int server, int winner, int then, int rallies) throws IndexOutOfBoundsException, IllegalArgumentException {
        needPlayer(server);
        needPlayer(winner);
        needPlayer(then);
        needRallies(rallies);
        Odds asked = freshOdds(NONE, NONE);
        int here = asked.placeOf(newGame(server));
        asked.spreadAll(rallies);
        asked.weighAll(rallies, 1 << (winner * 2 + then));
        return asked.valueAt(here);
    }

    public int even(int rallies, int millionths) throws IllegalArgumentException {
        needRallies(rallies);
        if (millionths < 0 || millionths > MOST_MILLIONTHS) {
            throw new IllegalArgumentException("millionths are 0 to 500000");
        }
        Odds asked = freshOdds(NONE, NONE);
        int[] places = new int[16];
        for (int i = 0; i < 16; i++) {
            trial.restart(-(i / 4), i % 4, now.score.server);
            places[i] = asked.placeOf(trial);
        }
        asked.spreadAll(rallies);
        asked.weighAll(rallies, waysOf(0));
        for (int sum = 0; sum <= 2 * MOST_HANDICAP; sum++) {
            int least = Math.max(0, sum - MOST_HANDICAP);
            int most = Math.min(MOST_HANDICAP, sum);
            for (int given = least; given <= most; given++) {
                int owed = sum - given;
                int far = Math.abs(asked.valueAt(places[owed * 4 + given]) - HALF);
                if (far <= millionths * 1000) {
                    return 10 * owed + given;
                }
            }
        }
        return NONE;
    }

    public int log(int what) throws IllegalArgumentException, IllegalStateException, NoSuchElementException {
        int length = useUp();
        needLog(length);
        trial.takeFrom(now.score);
        for (int at = 0; at + 1 < length; at += 2) {
            needGoingOn(trial);
            trial.strike(howOf(tape[at]), tape[at + 1] - '0', now.laws);
        }
        needWhat(what, TOLD);
        return trial.tell(what);
    }

    public long mends(int first, int second, int games, int others, boolean ways) throws IllegalArgumentException {
        int length = useUp();
        needLog(length);
        if (mender == null) {
            mender = new Mender();
        }
        mender.open(now);
        for (int at = 0; at + 1 < length; at += 2) {
            mender.step(howOf(tape[at]), tape[at + 1] - '0');
        }
        mender.close(first, second, games, others);
        return ways ? mender.number : mender.fewest;
    }

    public int play(int seed, int rallies, int what) throws IllegalArgumentException, NoSuchElementException {
        if (rallies < 0 || rallies > MOST_PLAYED) {
            throw new IllegalArgumentException("rallies are 0 to 200");
        }
        needWhat(what, TOLD + 1);
        trial.takeFrom(now.score);
        int played = 0;
        int drawn = seed;
        while (played < rallies && !trial.isOver(now.laws)) {
            drawn = drawn * 1103515245 + 12345;
            int outcome = now.laws.drawOutcome(now.pairOf(trial), (drawn >> 16 & 32767) % 100);
            trial.strike(Math.min(outcome, DEAD), outcome - DEAD, now.laws);
            played++;
        }
        return what == TOLD ? played : trial.tell(what);
    }

    public void image() {
        if (kept == null) {
            kept = new Stand();
        }
        kept.takeFrom(now);
    }

    public boolean back() {
        if (kept == null) {
            return false;
        }
        now.takeFrom(kept);
        return true;
    }

    public int count(int what) {
        switch (what) {
            case 0:
                return now.laws.texts;
            case 1:
                return now.rules.number;
            case 2:
                return now.laws.setGames;
            case 3:
                return now.laws.club;
            case 4:
                return now.laws.evenLaw;
            case 5:
                return now.score.owed;
            case 6:
                return now.score.given;
            default:
                return NONE;
        }
    }

    private static void needPlayer(int player) {
        if (player != 0 && player != 1) {
            throw new IndexOutOfBoundsException("there is no such player");
        }
    }

    private static void needLine(int line) {
        if (line < 0 || line >= LINES) {
            throw new IndexOutOfBoundsException("there is no such line");
        }
    }

    private static void needRallies(int rallies) {
        if (rallies < 0 || rallies > MOST_RALLIES) {
            throw new IllegalArgumentException("rallies are 0 to 30");
        }
    }

    private static void needWhat(int what, int number) {
        if (what < 0 || what >= number) {
            throw new NoSuchElementException("there is no such thing to tell");
        }
    }

    private void needGoingOn(Score score) {
        if (score.isOver(now.laws)) {
            throw new IllegalStateException("the set is over");
        }
    }

    /** Looks at all of the log ahead of playing it, as a wrong one goes ahead of a set that is over. */
    private void needLog(int length) {
        boolean right = length % 2 == 0 && length <= 2 * MOST_RALLIES;
        for (int at = 0; right && at + 1 < length; at += 2) {
            int how = howOf(tape[at]);
            int most = how == DEAD ? '9' : '0';
            right = how != NONE && tape[at + 1] >= '0' && tape[at + 1] <= most;
        }
        if (!right) {
            throw new IllegalArgumentException("it is no log");
        }
    }

    private static int howOf(int sign) {
        return sign == 'w' ? WON : sign == 'l' ? LOST : sign == 'd' ? DEAD : NONE;
    }

    private int useUp() {
        int length = bytes;
        bytes = 0;
        return length;
    }

    /** The two ways of a game's end by which the player has won it, as bits. */
    private static int waysOf(int player) {
        return player == 0 ? 3 : 12;
    }

    private Score newGame(int server) {
        trial.takeFrom(now.score);
        trial.restart(-trial.owed, trial.given, server);
        return trial;
    }

    private Odds freshOdds(int chooser, int taker) {
        if (odds == null) {
            odds = new Odds();
        }
        odds.open(now, chooser, taker);
        return odds;
    }

    /** All that an image keeps: the court, the rules, and the score. */
    private static final class Stand {
        final Laws laws = new Laws();
        final Rules rules = new Rules();
        final Score score = new Score();

        void takeFrom(Stand other) {
            laws.takeFrom(other.laws);
            rules.takeFrom(other.rules);
            score.takeFrom(other.score);
        }

        /** The styles that both take at a score, as one number. */
        int pairOf(Score at) {
            return rules.styleOf(at.server, at) * STYLES + rules.styleOf(1 - at.server, at);
        }
    }

    /** What the texts of the court have told. */
    private static final class Laws {
        final int[] chances = new int[PAIRS * OUTCOMES];
        int setGames = 1;
        int club;
        int evenLaw;
        int texts;

        Laws() {
            for (int pair = 0; pair < PAIRS; pair++) {
                chances[pair * OUTCOMES + WON] = 50;
                chances[pair * OUTCOMES + LOST] = 50;
            }
        }

        void takeFrom(Laws other) {
            System.arraycopy(other.chances, 0, chances, 0, chances.length);
            setGames = other.setGames;
            club = other.club;
            evenLaw = other.evenLaw;
            texts = other.texts;
        }

        /** Reads a text of the court: its first wrong byte, or NONE. */
        int readText(Scanner scanner) {
            if (scanner.thing() == Scanner.END) {
                return NONE;
            }
            for (int n = 0; n < MOST_TEXT_LINES; n++) {
                if (!readLine(scanner)) {
                    return scanner.place();
                }
                if (scanner.thing() == Scanner.END) {
                    return addUp() ? NONE : scanner.place();
                }
                if (!scanner.passes(Scanner.SEMICOLON)) {
                    return scanner.place();
                }
            }
            return scanner.place();
        }

        private boolean readLine(Scanner scanner) {
            if (scanner.passes(Scanner.RALLY)) {
                return readRally(scanner);
            }
            if (scanner.passes(Scanner.GAMES)) {
                setGames = scanner.passNumber(1, MOST_GAMES);
                return setGames != NONE;
            }
            if (scanner.passes(Scanner.CLUB)) {
                club = scanner.passNumber(0, 2);
                return club != NONE;
            }
            if (scanner.passes(Scanner.EVEN)) {
                evenLaw = scanner.passNumber(0, 1);
                return evenLaw != NONE;
            }
            return false;
        }

        private boolean readRally(Scanner scanner) {
            int server = scanner.passNumber(0, STYLES - 1);
            if (server == NONE) {
                return false;
            }
            int striker = scanner.passNumber(0, STYLES - 1);
            if (striker == NONE) {
                return false;
            }
            int outcome = readOutcome(scanner);
            if (outcome == NONE) {
                return false;
            }
            int hundredths = scanner.passNumber(0, 100);
            if (hundredths == NONE) {
                return false;
            }
            chances[(server * STYLES + striker) * OUTCOMES + outcome] = hundredths;
            return true;
        }

        private static int readOutcome(Scanner scanner) {
            if (scanner.passes(Scanner.WORD_WON)) {
                return WON;
            }
            if (scanner.passes(Scanner.WORD_LOST)) {
                return LOST;
            }
            if (!scanner.passes(Scanner.WORD_DEAD)) {
                return NONE;
            }
            int line = scanner.passNumber(0, LINES - 1);
            return line == NONE ? NONE : DEAD + line;
        }

        private boolean addUp() {
            for (int pair = 0; pair < PAIRS; pair++) {
                int sum = 0;
                for (int outcome = 0; outcome < OUTCOMES; outcome++) {
                    sum += chances[pair * OUTCOMES + outcome];
                }
                if (sum != 100) {
                    return false;
                }
            }
            return true;
        }

        /** Whose point it is when a ball dies better (below 0), even (0) or worse than the chase played off. */
        int pointBy(int compared) {
            if (compared == 0) {
                return evenLaw == 1 ? SERVER : NOBODY;
            }
            return compared < 0 ? STRIKER : SERVER;
        }

        int drawOutcome(int pair, int drawn) {
            int below = 0;
            for (int outcome = 0; outcome < OUTCOMES - 1; outcome++) {
                below += chances[pair * OUTCOMES + outcome];
                if (drawn < below) {
                    return outcome;
                }
            }
            return OUTCOMES - 1;
        }
    }

    /** Points, ends, chases and games, and the handicap of the games to come. */
    private static final class Score {
        /** No chase; one that stands; one played off; two played off. */
        private static final int CHASE_KINDS = 1 + LINES + LINES + LINES * LINES;

        int first;
        int second;
        int server;
        int chases;
        int line;
        int nextLine;
        boolean off;
        int firstGames;
        int secondGames;
        int owed;
        int given;

        void takeFrom(Score other) {
            first = other.first;
            second = other.second;
            server = other.server;
            chases = other.chases;
            line = other.line;
            nextLine = other.nextLine;
            off = other.off;
            firstGames = other.firstGames;
            secondGames = other.secondGames;
            owed = other.owed;
            given = other.given;
        }

        void restart(int newFirst, int newSecond, int newServer) {
            first = newFirst;
            second = newSecond;
            server = newServer;
            chases = 0;
            off = false;
        }

        boolean isOver(Laws laws) {
            return firstGames >= laws.setGames || secondGames >= laws.setGames;
        }

        boolean isPointOfGame() {
            return first >= 3 && first > second || second >= 3 && second > first;
        }

        int tell(int what) {
            switch (what) {
                case 0:
                    return first;
                case 1:
                    return second;
                case 2:
                    return server;
                case 3:
                    return chases;
                case 4:
                    return chases > 0 ? line : NONE;
                case 5:
                    return chases > 1 ? nextLine : NONE;
                case 6:
                    return off ? 1 : 0;
                case 7:
                    return firstGames;
                case 8:
                    return secondGames;
                default:
                    return isPointOfGame() ? 1 : 0;
            }
        }

        int strike(int how, int where, Laws laws) {
            int whose = how == WON ? SERVER : how == LOST ? STRIKER : NOBODY;
            if (off) {
                int decided = how == DEAD ? laws.pointBy(Integer.compare(where, line)) : whose;
                playOff(decided);
                return decided;
            }
            if (how == DEAD) {
                addChase(where);
            }
            givePoint(whose);
            changeEnds(laws.club);
            return whose;
        }

        /** The chase ahead is gone; the point comes last, as a game that it wins takes the other chase away too. */
        void playOff(int whose) {
            line = nextLine;
            chases--;
            off = chases > 0;
            givePoint(whose);
        }

        boolean takeBisque(int player, Laws laws) {
            boolean won = point(player);
            changeEnds(laws.club);
            return won;
        }

        private void addChase(int where) {
            if (chases == 0) {
                line = where;
            } else {
                nextLine = where;
            }
            chases++;
        }

        private void givePoint(int whose) {
            if (whose != NOBODY) {
                point(whose == SERVER ? server : 1 - server);
            }
        }

        private boolean point(int player) {
            if (player == 0) {
                first++;
            } else {
                second++;
            }
            if (first == 4 && second == 4) {
                first = 3;
                second = 3;
            }
            int mine = player == 0 ? first : second;
            int his = player == 0 ? second : first;
            if (mine < 4 || mine - his < 2) {
                return false;
            }
            if (player == 0) {
                firstGames++;
            } else {
                secondGames++;
            }
            restart(-owed, given, server);
            return true;
        }

        private void changeEnds(int club) {
            if (off || chases == 0) {
                return;
            }
            if (chases == 2 || club == 1 || club == 0 && isPointOfGame()) {
                server = 1 - server;
                off = true;
            }
        }

        /** Points, ends and chases as one number, without games. */
        int code() {
            int kind = 0;
            if (chases == 1) {
                kind = (off ? 1 + LINES : 1) + line;
            } else if (chases == 2) {
                kind = 1 + LINES + LINES + line * LINES + nextLine;
            }
            return (((first + 3) * 8 + second + 3) * 2 + server) * CHASE_KINDS + kind;
        }

        void become(int code) {
            int kind = code % CHASE_KINDS;
            int rest = code / CHASE_KINDS;
            restart(rest / 16 - 3, rest / 2 % 8 - 3, rest % 2);
            if (kind == 0) {
                return;
            }
            off = kind > LINES;
            if (kind <= LINES + LINES) {
                chases = 1;
                line = (kind - 1) % LINES;
                return;
            }
            chases = 2;
            line = (kind - 1 - LINES - LINES) / LINES;
            nextLine = (kind - 1) % LINES;
        }
    }

    /** The rules, and by which of them each player plays. */
    private static final class Rules {
        final int[] by = {NONE, NONE};
        private final Rule[] all = new Rule[MOST_RULES];
        int number;

        /** A rule never changes, so that both may hold the same one. */
        void takeFrom(Rules other) {
            number = other.number;
            for (int i = 0; i < number; i++) {
                all[i] = other.all[i];
            }
            by[0] = other.by[0];
            by[1] = other.by[1];
        }

        int add(int[] code) {
            if (number >= MOST_RULES) {
                return NONE;
            }
            all[number] = new Rule(code);
            return number++;
        }

        int styleOf(int player, Score score) {
            int which = by[player];
            if (which < 0 || which >= number || all[which] == null) {
                return 0;
            }
            return all[which].styleOf(player, score);
        }
    }

    /**
     * A rule's lines one behind another: the style, how long the condition is, and the condition by its things, each
     * sign behind what it joins.
     */
    private static final class Rule {
        private final int[] code;
        /** More than seven levels with a sum, an "and" and an "or" open in each can need. */
        private final int[] pile = new int[40];

        Rule(int[] code) {
            this.code = code;
        }

        int styleOf(int player, Score score) {
            int at = 0;
            for (int n = 0; n < MOST_TEXT_LINES && at + 1 < code.length; n++) {
                int behind = at + 2 + code[at + 1];
                if (code[at + 1] == 0 || holds(at + 2, Math.min(behind, code.length), player, score)) {
                    return code[at];
                }
                at = behind;
            }
            return 0;
        }

        private boolean holds(int from, int until, int player, Score score) {
            int height = 0;
            for (int at = from; at < until; at++) {
                int thing = code[at];
                if (thing == Scanner.NOT && height >= 1) {
                    pile[height - 1] = 1 - pile[height - 1];
                } else if (joins(thing) && height >= 2) {
                    height--;
                    pile[height - 1] = joined(thing, pile[height - 1], pile[height]);
                } else if (height < pile.length) {
                    pile[height++] = fact(thing, player, score);
                }
            }
            return height > 0 && pile[height - 1] == 1;
        }

        private static boolean joins(int thing) {
            return thing == Scanner.AND || thing == Scanner.OR || thing == Scanner.PLUS || thing == Scanner.LESS
                || thing == Scanner.MORE;
        }

        private static int joined(int thing, int left, int right) {
            switch (thing) {
                case Scanner.AND:
                    return left & right;
                case Scanner.OR:
                    return left | right;
                case Scanner.LESS:
                    return left < right ? 1 : 0;
                case Scanner.MORE:
                    return left > right ? 1 : 0;
                default:
                    return left + right;
            }
        }

        private static int fact(int thing, int player, Score score) {
            switch (thing) {
                case Scanner.SERVING:
                    return score.server == player ? 1 : 0;
                case Scanner.OFF:
                    return score.off ? 1 : 0;
                case Scanner.MINE:
                    return 3 + (player == 0 ? score.first : score.second);
                case Scanner.HIS:
                    return 3 + (player == 0 ? score.second : score.first);
                case Scanner.LINE:
                    return score.chases == 0 ? LINES : score.off || score.chases == 1 ? score.line : score.nextLine;
                case Scanner.CHASES:
                    return score.chases;
                case Scanner.GAMES:
                    return player == 0 ? score.firstGames : score.secondGames;
                default:
                    return thing - RuleReader.NUMBERS;
            }
        }
    }

    /** Takes a text apart into words, numbers and signs, and walks over them. */
    private static final class Scanner {
        static final int END = 0;
        static final int NUMBER = 1;
        static final int RALLY = 2;
        static final int WORD_WON = 3;
        static final int WORD_LOST = 4;
        static final int WORD_DEAD = 5;
        static final int GAMES = 6;
        static final int CLUB = 7;
        static final int EVEN = 8;
        static final int STYLE = 9;
        static final int IF = 10;
        static final int OR = 11;
        static final int AND = 12;
        static final int NOT = 13;
        static final int SERVING = 14;
        static final int OFF = 15;
        static final int MINE = 16;
        static final int HIS = 17;
        static final int LINE = 18;
        static final int CHASES = 19;
        static final int NO_WORD = 20;
        /** A sign is its byte and this. */
        static final int SIGNS = 100;
        static final int SEMICOLON = SIGNS + ';';
        static final int OPEN = SIGNS + '(';
        static final int CLOSE = SIGNS + ')';
        static final int PLUS = SIGNS + '+';
        static final int LESS = SIGNS + '<';
        static final int MORE = SIGNS + '>';
        /** What a number of more than three digits counts: more than any place allows. */
        private static final int TOO_LONG = 1000;

        private final int[] things = new int[MOST_BYTES + 1];
        private final int[] begins = new int[MOST_BYTES + 1];
        private final int[] numbers = new int[MOST_BYTES + 1];
        private byte[] text;
        private int length;
        private int size;
        private int at;

        void scan(byte[] tape, int bytes) {
            text = tape;
            length = Math.min(bytes, Math.min(tape.length, MOST_BYTES));
            size = 0;
            at = 0;
            int place = 0;
            for (int n = 0; n < MOST_BYTES && place < length; n++) {
                place = text[place] == ' ' ? place + 1 : scanThing(place);
            }
            things[size] = END;
            begins[size] = length;
        }

        private int scanThing(int begin) {
            int behind = begin + 1;
            begins[size] = begin;
            if (isLetter(text[begin])) {
                while (behind < length && isLetter(text[behind])) {
                    behind++;
                }
                things[size] = wordAt(begin, behind);
            } else if (isDigit(text[begin])) {
                while (behind < length && isDigit(text[behind])) {
                    behind++;
                }
                things[size] = NUMBER;
                numbers[size] = numberAt(begin, behind);
            } else {
                things[size] = SIGNS + (text[begin] & 255);
            }
            size++;
            return behind;
        }

        private static boolean isLetter(int sign) {
            return sign >= 'a' && sign <= 'z';
        }

        private static boolean isDigit(int sign) {
            return sign >= '0' && sign <= '9';
        }

        private int numberAt(int begin, int behind) {
            if (behind - begin > 3) {
                return TOO_LONG;
            }
            int number = 0;
            for (int i = begin; i < behind; i++) {
                number = number * 10 + text[i] - '0';
            }
            return number;
        }

        private int wordAt(int begin, int behind) {
            int found = courtWordAt(begin, behind);
            return found != NO_WORD ? found : ruleWordAt(begin, behind);
        }

        private int courtWordAt(int begin, int behind) {
            return spells(begin, behind, "rally") ? RALLY
                : spells(begin, behind, "won") ? WORD_WON
                : spells(begin, behind, "lost") ? WORD_LOST
                : spells(begin, behind, "dead") ? WORD_DEAD
                : spells(begin, behind, "games") ? GAMES
                : spells(begin, behind, "club") ? CLUB
                : spells(begin, behind, "even") ? EVEN : NO_WORD;
        }

        private int ruleWordAt(int begin, int behind) {
            return spells(begin, behind, "style") ? STYLE
                : spells(begin, behind, "if") ? IF
                : spells(begin, behind, "or") ? OR
                : spells(begin, behind, "and") ? AND
                : spells(begin, behind, "not") ? NOT
                : spells(begin, behind, "serving") ? SERVING
                : spells(begin, behind, "off") ? OFF
                : spells(begin, behind, "mine") ? MINE
                : spells(begin, behind, "his") ? HIS
                : spells(begin, behind, "line") ? LINE
                : spells(begin, behind, "chases") ? CHASES : NO_WORD;
        }

        private boolean spells(int begin, int behind, String word) {
            if (behind - begin != word.length()) {
                return false;
            }
            for (int i = 0; i < word.length(); i++) {
                if (text[begin + i] != word.charAt(i)) {
                    return false;
                }
            }
            return true;
        }

        int thing() {
            return things[at];
        }

        /** Where the thing begins; the text's length behind the last one. */
        int place() {
            return begins[at];
        }

        void pass() {
            if (at < size) {
                at++;
            }
        }

        boolean passes(int thing) {
            if (at >= size || things[at] != thing) {
                return false;
            }
            at++;
            return true;
        }

        /** The number that stands there, if its place allows it; else NONE, and it is not passed. */
        int passNumber(int least, int most) {
            if (at >= size || things[at] != NUMBER || numbers[at] < least || numbers[at] > most) {
                return NONE;
            }
            return numbers[at++];
        }
    }

    /** Reads a text of a rule into a rule's code. */
    private static final class RuleReader {
        /** A number in the code is this and the number, above all things. */
        static final int NUMBERS = 1000;

        private final int[] code = new int[MOST_BYTES];
        private int size;
        /** Where the latest line tells how long its condition is. */
        private int head;
        private Scanner scanner;

        /** The first wrong byte, or NONE. */
        int read(Scanner text) {
            scanner = text;
            size = 0;
            if (scanner.thing() == Scanner.END) {
                return NONE;
            }
            for (int n = 0; n < MOST_TEXT_LINES; n++) {
                if (!readHead() || scanner.passes(Scanner.IF) && !readAny(0)) {
                    return scanner.place();
                }
                if (head < code.length) {
                    code[head] = size - head - 1;
                }
                if (scanner.thing() == Scanner.END) {
                    return NONE;
                }
                if (!scanner.passes(Scanner.SEMICOLON)) {
                    return scanner.place();
                }
            }
            return scanner.place();
        }

        int[] written() {
            return Arrays.copyOf(code, size);
        }

        private boolean readHead() {
            if (!scanner.passes(Scanner.STYLE)) {
                return false;
            }
            int style = scanner.passNumber(0, STYLES - 1);
            if (style == NONE) {
                return false;
            }
            write(style);
            head = size;
            write(0);
            return true;
        }

        private boolean readAny(int depth) {
            if (!readAll(depth)) {
                return false;
            }
            for (int n = 0; n < MOST_BYTES && scanner.passes(Scanner.OR); n++) {
                if (!readAll(depth)) {
                    return false;
                }
                write(Scanner.OR);
            }
            return true;
        }

        private boolean readAll(int depth) {
            if (!readAtom(depth)) {
                return false;
            }
            for (int n = 0; n < MOST_BYTES && scanner.passes(Scanner.AND); n++) {
                if (!readAtom(depth)) {
                    return false;
                }
                write(Scanner.AND);
            }
            return true;
        }

        private boolean readAtom(int depth) {
            int thing = scanner.thing();
            if (thing == Scanner.NOT || thing == Scanner.OPEN) {
                return depth < MOST_DEPTH && readInner(thing, depth + 1);
            }
            if (thing == Scanner.SERVING || thing == Scanner.OFF) {
                write(thing);
                scanner.pass();
                return true;
            }
            return readCompared();
        }

        private boolean readInner(int thing, int depth) {
            scanner.pass();
            if (thing == Scanner.OPEN) {
                return readAny(depth) && scanner.passes(Scanner.CLOSE);
            }
            if (!readAtom(depth)) {
                return false;
            }
            write(Scanner.NOT);
            return true;
        }

        private boolean readCompared() {
            if (!readSum()) {
                return false;
            }
            int sign = scanner.thing();
            if (sign != Scanner.LESS && sign != Scanner.MORE) {
                return false;
            }
            scanner.pass();
            if (!readSum()) {
                return false;
            }
            write(sign);
            return true;
        }

        private boolean readSum() {
            for (int n = 0; n < MOST_BYTES; n++) {
                int thing = scanner.thing();
                int number = scanner.passNumber(0, 999);
                if (number != NONE) {
                    write(NUMBERS + number);
                } else if (isPart(thing)) {
                    write(thing);
                    scanner.pass();
                } else {
                    return false;
                }
                if (n > 0) {
                    write(Scanner.PLUS);
                }
                if (!scanner.passes(Scanner.PLUS)) {
                    return true;
                }
            }
            return false;
        }

        private static boolean isPart(int thing) {
            return thing == Scanner.MINE || thing == Scanner.HIS || thing == Scanner.LINE || thing == Scanner.CHASES
                || thing == Scanner.GAMES;
        }

        /** A thing of the text gives one number at most, and so the code has room for all of them. */
        private void write(int thing) {
            if (size < code.length) {
                code[size++] = thing;
            }
        }
    }

    /** Numbers what is put in, from 0 on, the same thing by the same number. */
    private static final class Places {
        private int[] keys = new int[16];
        private int[] table = new int[64];
        int size;

        void clear() {
            Arrays.fill(table, 0);
            size = 0;
        }

        int room() {
            return keys.length;
        }

        int keyAt(int place) {
            return keys[place];
        }

        int placeOf(int key) {
            if (size >= keys.length) {
                grow();
            }
            int slot = slotOf(key);
            if (table[slot] == 0) {
                keys[size++] = key;
                table[slot] = size;
            }
            return table[slot] - 1;
        }

        /** The slot that has the key, or the free one where it belongs: a quarter of all is full at most. */
        private int slotOf(int key) {
            int slot = (key * 0x9E3779B1 >>> 7) & (table.length - 1);
            for (int n = 0; n < table.length; n++) {
                if (table[slot] == 0 || keys[table[slot] - 1] == key) {
                    return slot;
                }
                slot = (slot + 1) & (table.length - 1);
            }
            return slot;
        }

        private void grow() {
            keys = Arrays.copyOf(keys, keys.length * 2);
            table = new int[keys.length * 4];
            for (int i = 0; i < size; i++) {
                table[slotOf(keys[i])] = i + 1;
            }
        }
    }

    /**
     * Chances from scores. All scores that so many rallies can lead to are numbered once, by how soon they come, with
     * what each rally leads to; then they are weighed with one rally left, with two, and so on. Places 0 to 3 are the
     * four ways in which a game ends.
     */
    private static final class Odds {
        private final Places places = new Places();
        private final Score from = new Score();
        private final Score behind = new Score();
        /** Of each outcome its weight by each choice. */
        private final int[] weights = new int[OUTCOMES * STYLES];
        /** Where the scores end that come by so many rallies. */
        private final int[] ends = new int[MOST_RALLIES + 1];
        /** Where each score's outcomes begin in the pool. */
        private int[] base = new int[32];
        /** Where each score goes by a bisque. */
        private int[] taken = new int[32];
        /** Of each outcome where it leads, and its weight by each choice. */
        private int[] pool = new int[128];
        private int used;
        private int choices;
        private int chooser;
        private int taker;
        private Stand stand;
        /** Values with one rally less, and with all; at the end of a level they change places. */
        private int[] fewer = new int[32];
        private int[] values = new int[32];
        private int[] fewerSaved = new int[32];
        private int[] valuesSaved = new int[32];

        void open(Stand asked, int whoChooses, int whoTakes) {
            stand = asked;
            chooser = whoChooses;
            taker = whoTakes;
            choices = whoChooses == NONE ? 1 : STYLES;
            used = 0;
            places.clear();
            from.takeFrom(asked.score);
        }

        int placeOf(Score score) {
            return WAYS + places.placeOf(score.code());
        }

        void spreadAll(int rallies) {
            int begin = WAYS;
            for (int depth = 0; depth < rallies; depth++) {
                if (taker != NONE) {
                    takeAll(begin);
                }
                int until = WAYS + places.size;
                ends[depth] = until;
                for (int place = begin; place < until; place++) {
                    spread(place);
                }
                begin = until;
            }
            makeRoom();
        }

        /** Behind a bisque as many rallies are left: such scores come as soon as those ahead of it. */
        private void takeAll(int begin) {
            int most = WAYS + 64 * 2 * Score.CHASE_KINDS;
            for (int place = begin; place < WAYS + places.size && place < most; place++) {
                makeRoom();
                from.become(places.keyAt(place - WAYS));
                behind.takeFrom(from);
                behind.takeBisque(taker, stand.laws);
                taken[place] = placeBehind();
            }
        }

        private void spread(int place) {
            makeRoom();
            from.become(places.keyAt(place - WAYS));
            int outcomes = from.off ? 3 : OUTCOMES;
            fillWeights(stand.pairOf(from));
            base[place] = used;
            for (int outcome = 0; outcome < outcomes; outcome++) {
                if (mayCome(outcome)) {
                    behind.takeFrom(from);
                    if (from.off) {
                        behind.playOff(outcome);
                    } else {
                        behind.strike(Math.min(outcome, DEAD), outcome - DEAD, stand.laws);
                    }
                    write(outcome, placeBehind());
                }
            }
            base[place + 1] = used;
        }

        /** While a chase is played off, outcomes are whose point it is; else they are those of the court. */
        private void fillWeights(int rulesPair) {
            int pair = rulesPair;
            int step = 0;
            if (chooser != NONE) {
                boolean serves = chooser == from.server;
                step = serves ? STYLES : 1;
                pair = serves ? pair % STYLES : pair - pair % STYLES;
            }
            for (int choice = 0; choice < choices; choice++) {
                int first = (pair + choice * step) * OUTCOMES;
                if (from.off) {
                    fillOff(first, choice);
                } else {
                    for (int outcome = 0; outcome < OUTCOMES; outcome++) {
                        weights[outcome * STYLES + choice] = stand.laws.chances[first + outcome];
                    }
                }
            }
        }

        private void fillOff(int first, int choice) {
            int[] chances = stand.laws.chances;
            weights[NOBODY * STYLES + choice] = 0;
            weights[SERVER * STYLES + choice] = chances[first + WON];
            weights[STRIKER * STYLES + choice] = chances[first + LOST];
            for (int line = 0; line < LINES; line++) {
                int whose = stand.laws.pointBy(Integer.compare(line, from.line));
                weights[whose * STYLES + choice] += chances[first + DEAD + line];
            }
        }

        private boolean mayCome(int outcome) {
            for (int choice = 0; choice < choices; choice++) {
                if (weights[outcome * STYLES + choice] > 0) {
                    return true;
                }
            }
            return false;
        }

        private int placeBehind() {
            if (behind.firstGames > from.firstGames) {
                return behind.server;
            }
            if (behind.secondGames > from.secondGames) {
                return 2 + behind.server;
            }
            return placeOf(behind);
        }

        private void write(int outcome, int place) {
            if (used + 1 + choices > pool.length) {
                pool = Arrays.copyOf(pool, pool.length * 2);
            }
            pool[used++] = place;
            for (int choice = 0; choice < choices; choice++) {
                pool[used++] = weights[outcome * STYLES + choice];
            }
        }

        /** One more than there are places, as base tells of each place its end too. */
        private void makeRoom() {
            int needed = WAYS + places.room() + 1;
            if (base.length < needed) {
                base = Arrays.copyOf(base, needed);
            }
            if (taker != NONE && taken.length < needed) {
                taken = Arrays.copyOf(taken, needed);
            }
        }

        private void makeRows() {
            int needed = WAYS + places.room() + 1;
            if (values.length < needed) {
                values = new int[needed];
                fewer = new int[needed];
            }
            if (taker != NONE && valuesSaved.length < needed) {
                valuesSaved = new int[needed];
                fewerSaved = new int[needed];
            }
        }

        /** Weighs all scores; the ways of a game's end that count are told by bits. */
        void weighAll(int rallies, int counting) {
            makeRows();
            fillEnds(values, fewer, counting);
            if (taker != NONE) {
                fillEnds(valuesSaved, fewerSaved, counting);
            }
            for (int left = 1; left <= rallies; left++) {
                int[] row = fewer;
                fewer = values;
                values = row;
                weighLevel(ends[rallies - left]);
            }
        }

        private void fillEnds(int[] row, int[] other, int counting) {
            for (int place = WAYS; place < WAYS + places.size; place++) {
                row[place] = 0;
            }
            for (int way = 0; way < WAYS; way++) {
                row[way] = (counting >> way & 1) == 1 ? WHOLE : 0;
                other[way] = row[way];
            }
        }

        private void weighLevel(int until) {
            for (int place = WAYS; place < until; place++) {
                values[place] = most(place, fewer);
            }
            if (taker == NONE) {
                return;
            }
            int[] row = fewerSaved;
            fewerSaved = valuesSaved;
            valuesSaved = row;
            for (int place = WAYS; place < until; place++) {
                valuesSaved[place] = Math.max(most(place, fewerSaved), values[taken[place]]);
            }
        }

        private int most(int place, int[] row) {
            int most = 0;
            for (int choice = 0; choice < choices; choice++) {
                most = Math.max(most, weigh(place, choice, row));
            }
            return most;
        }

        private int weigh(int place, int choice, int[] row) {
            long sum = 0;
            int until = base[place + 1];
            for (int at = base[place]; at < until; at += 1 + choices) {
                sum += (long) pool[at + 1 + choice] * row[pool[at]];
            }
            return (int) (sum / 100);
        }

        int valueAt(int place) {
            return values[place];
        }

        int savedAt(int place) {
            return valuesSaved[place];
        }

        boolean takesAt(int place) {
            return values[taken[place]] > most(place, fewerSaved);
        }

        /** The least style by which the value is had. */
        int choiceAt(int place) {
            int choice = 0;
            while (choice < choices - 1 && weigh(place, choice, fewer) != values[place]) {
                choice++;
            }
            return choice;
        }
    }

    /** The chance of a set by the four ways in which its games end. */
    private static final class SetOdds {
        /** Of the game that is now. */
        final int[] here = new int[WAYS];
        /** Of a game that begins, by who is at end 0. */
        final int[] fresh = new int[2 * WAYS];
        /** By games of both and who is at end 0: the chance at the begin of a game. */
        private final int[] table = new int[(MOST_GAMES + 1) * (MOST_GAMES + 1) * 2];

        int chanceOf(int player, Stand stand) {
            int enough = stand.laws.setGames;
            int firstNow = stand.score.firstGames;
            int secondNow = stand.score.secondGames;
            for (int first = enough; first >= firstNow; first--) {
                for (int second = enough; second >= secondNow; second--) {
                    if (first == enough || second == enough) {
                        int sure = (first == enough) == (player == 0) ? WHOLE : 0;
                        table[indexOf(first, second, 0)] = sure;
                        table[indexOf(first, second, 1)] = sure;
                    } else {
                        table[indexOf(first, second, 0)] = sum(fresh, 0, first, second);
                        table[indexOf(first, second, 1)] = sum(fresh, WAYS, first, second);
                    }
                }
            }
            return sum(here, 0, firstNow, secondNow);
        }

        private static int indexOf(int first, int second, int server) {
            return (first * (MOST_GAMES + 1) + second) * 2 + server;
        }

        private int sum(int[] row, int from, int first, int second) {
            long sum = 0;
            for (int way = 0; way < WAYS; way++) {
                int won = way / 2;
                int next = table[indexOf(first + 1 - won, second + won, way % 2)];
                sum += (long) row[from + way] * next / WHOLE;
            }
            return (int) sum;
        }
    }

    /** Follows a log by all calls that may have been, with how few of them are otherwise for each score. */
    private static final class Mender {
        private static final int GAME_KINDS = (MOST_GAMES + 1) * (MOST_GAMES + 1);

        private final Score from = new Score();
        private final Score behind = new Score();
        private Places places = new Places();
        private Places nextPlaces = new Places();
        private int[] costs = new int[16];
        private int[] nextCosts = new int[16];
        private long[] numbers = new long[16];
        private long[] nextNumbers = new long[16];
        private Stand stand;
        int fewest;
        long number;

        void open(Stand asked) {
            stand = asked;
            from.takeFrom(asked.score);
            behind.takeFrom(asked.score);
            nextPlaces.clear();
            reach(0, 1);
            turn();
        }

        /** One rally more, from each score at which the set is not over. */
        void step(int how, int line) {
            nextPlaces.clear();
            for (int place = 0; place < places.size; place++) {
                fetch(place);
                if (!from.isOver(stand.laws)) {
                    follow(how, line, costs[place], numbers[place]);
                }
            }
            turn();
        }

        private void follow(int how, int line, int cost, long ways) {
            if (how != DEAD || !from.off) {
                behind.takeFrom(from);
                behind.strike(how, line, stand.laws);
                reach(cost, ways);
                return;
            }
            int called = Integer.compare(line, from.line);
            for (int other = -1; other <= 1; other++) {
                behind.takeFrom(from);
                behind.playOff(stand.laws.pointBy(other));
                reach(other == called ? cost : cost + 1, ways);
            }
        }

        private void fetch(int place) {
            int key = places.keyAt(place);
            from.become(key / GAME_KINDS);
            from.firstGames = key / (MOST_GAMES + 1) % (MOST_GAMES + 1);
            from.secondGames = key % (MOST_GAMES + 1);
        }

        private void reach(int cost, long ways) {
            int size = nextPlaces.size;
            int games = behind.firstGames * (MOST_GAMES + 1) + behind.secondGames;
            int place = nextPlaces.placeOf(behind.code() * GAME_KINDS + games);
            if (nextCosts.length < nextPlaces.room()) {
                nextCosts = Arrays.copyOf(nextCosts, nextPlaces.room());
                nextNumbers = Arrays.copyOf(nextNumbers, nextPlaces.room());
            }
            if (place == size || cost < nextCosts[place]) {
                nextCosts[place] = cost;
                nextNumbers[place] = ways;
            } else if (cost == nextCosts[place]) {
                nextNumbers[place] += ways;
            }
        }

        private void turn() {
            Places oldPlaces = places;
            places = nextPlaces;
            nextPlaces = oldPlaces;
            int[] oldCosts = costs;
            costs = nextCosts;
            nextCosts = oldCosts;
            long[] oldNumbers = numbers;
            numbers = nextNumbers;
            nextNumbers = oldNumbers;
        }

        void close(int first, int second, int games, int others) {
            fewest = NONE;
            number = 0;
            for (int place = 0; place < places.size; place++) {
                fetch(place);
                boolean asTold = from.first == first && from.second == second
                    && from.firstGames == games && from.secondGames == others;
                if (asTold) {
                    tally(costs[place], numbers[place]);
                }
            }
        }

        private void tally(int cost, long ways) {
            if (fewest == NONE || cost < fewest) {
                fewest = cost;
                number = ways;
            } else if (cost == fewest) {
                number += ways;
            }
        }
    }
}
