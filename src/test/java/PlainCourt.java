import java.nio.charset.StandardCharsets;
import java.util.ArrayList;
import java.util.HashMap;
import java.util.List;
import java.util.Map;
import java.util.NoSuchElementException;

/** The document once more, as plainly as Java's library allows: what ChaseCourt is compared with. */
final class PlainCourt {
    /** One score; a game that is over bears its winner. */
    record At(int a, int b, int server, List<Integer> chases, boolean off, int winner) {
        int points(int player) {
            return player == 0 ? a : b;
        }

        boolean pointOfGame() {
            for (int p = 0; p < 2; p++) {
                int mine = points(p) + 1;
                int his = points(1 - p);
                if (mine >= 4 && mine >= his + 2) {
                    return true;
                }
            }
            return false;
        }
    }

    private static final class Wrong extends Exception {
        private static final long serialVersionUID = 1L;
        final int place;

        Wrong(int place) {
            this.place = place;
        }
    }

    interface Condition {
        boolean holds(int player, At at, int games);
    }

    interface Sum {
        int value(int player, At at, int games);
    }

    record StyleLine(int style, Condition condition) {
    }

    private static final class State {
        int[][][] chances = new int[4][4][12];
        int setGames = 1;
        int club;
        int even;
        int texts;
        List<List<StyleLine>> rules = new ArrayList<>();
        int[] by = {-1, -1};
        At at = new At(0, 0, 0, List.of(), false, -1);
        int[] games = {0, 0};
        int owed;
        int given;

        State copy() {
            State c = new State();
            c.chances = copyOf(chances);
            c.setGames = setGames;
            c.club = club;
            c.even = even;
            c.texts = texts;
            c.rules = new ArrayList<>(rules);
            c.by = by.clone();
            c.at = at;
            c.games = games.clone();
            c.owed = owed;
            c.given = given;
            return c;
        }
    }

    private static int[][][] copyOf(int[][][] from) {
        int[][][] to = new int[4][4][];
        for (int s = 0; s < 4; s++) {
            for (int h = 0; h < 4; h++) {
                to[s][h] = from[s][h].clone();
            }
        }
        return to;
    }

    private State x = new State();
    private State image;
    private String tape = "";
    private int fault = -1;

    PlainCourt() {
        for (int[][] row : x.chances) {
            for (int[] pair : row) {
                pair[0] = 50;
                pair[1] = 50;
            }
        }
    }

    int feed(int... numbers) {
        if (tape.length() + 20 > 400) {
            return -1;
        }
        for (int n : numbers) {
            byte[] four = {(byte) (n >> 24), (byte) (n >> 16), (byte) (n >> 8), (byte) n};
            tape += new String(four, StandardCharsets.ISO_8859_1);
        }
        return tape.length();
    }

    boolean end(int n) {
        if (n < 0 || n > tape.length()) {
            return false;
        }
        tape = tape.substring(0, n);
        return true;
    }

    private String use() {
        String t = tape;
        tape = "";
        return t;
    }

    // ---- texts ----

    private String text;
    private int pos;

    private void blanks() {
        while (pos < text.length() && text.charAt(pos) == ' ') {
            pos++;
        }
    }

    /** The thing that begins at pos: a run of letters, a run of digits, one sign, or "" at the end. */
    private String peek() {
        blanks();
        if (pos >= text.length()) {
            return "";
        }
        int q = pos;
        if (text.substring(pos, pos + 1).matches("[a-z]")) {
            while (q < text.length() && text.substring(q, q + 1).matches("[a-z]")) {
                q++;
            }
        } else if (text.substring(pos, pos + 1).matches("[0-9]")) {
            while (q < text.length() && text.substring(q, q + 1).matches("[0-9]")) {
                q++;
            }
        } else {
            q++;
        }
        return text.substring(pos, q);
    }

    private String next() {
        String t = peek();
        pos += t.length();
        return t;
    }

    private Wrong wrongHere() {
        blanks();
        return new Wrong(pos);
    }

    private void must(String what) throws Wrong {
        if (!peek().equals(what)) {
            throw wrongHere();
        }
        next();
    }

    private int number(int least, int most) throws Wrong {
        String t = peek();
        if (!t.matches("[0-9]{1,3}") || Integer.parseInt(t) < least || Integer.parseInt(t) > most) {
            throw wrongHere();
        }
        next();
        return Integer.parseInt(t);
    }

    int court() {
        text = use();
        pos = 0;
        int[][][] ch = copyOf(x.chances);
        int[] laws = {x.setGames, x.club, x.even};
        try {
            courtText(ch, laws);
            fault = -1;
        } catch (Wrong w) {
            fault = w.place;
            throw new IllegalArgumentException();
        }
        if (x.texts == 12) {
            throw new UnsupportedOperationException();
        }
        x.chances = ch;
        x.setGames = laws[0];
        x.club = laws[1];
        x.even = laws[2];
        return ++x.texts;
    }

    private void courtText(int[][][] ch, int[] laws) throws Wrong {
        int lines = 0;
        if (!peek().isEmpty()) {
            do {
                if (lines > 0) {
                    next();
                }
                if (++lines > 12) {
                    throw wrongHere();
                }
                courtLine(ch, laws);
            } while (peek().equals(";"));
            if (!peek().isEmpty()) {
                throw wrongHere();
            }
        }
        for (int[][] row : ch) {
            for (int[] pair : row) {
                int sum = 0;
                for (int v : pair) {
                    sum += v;
                }
                if (sum != 100) {
                    throw new Wrong(text.length());
                }
            }
        }
    }

    private void courtLine(int[][][] ch, int[] laws) throws Wrong {
        switch (peek()) {
            case "rally" -> {
                next();
                int s = number(0, 3);
                int h = number(0, 3);
                int what;
                switch (peek()) {
                    case "won" -> {
                        next();
                        what = 0;
                    }
                    case "lost" -> {
                        next();
                        what = 1;
                    }
                    case "dead" -> {
                        next();
                        what = 2 + number(0, 9);
                    }
                    default -> throw wrongHere();
                }
                ch[s][h][what] = number(0, 100);
            }
            case "games" -> {
                next();
                laws[0] = number(1, 6);
            }
            case "club" -> {
                next();
                laws[1] = number(0, 2);
            }
            case "even" -> {
                next();
                laws[2] = number(0, 1);
            }
            default -> throw wrongHere();
        }
    }

    int rule() {
        text = use();
        pos = 0;
        List<StyleLine> lines = new ArrayList<>();
        try {
            if (!peek().isEmpty()) {
                do {
                    if (!lines.isEmpty()) {
                        next();
                    }
                    if (lines.size() == 12) {
                        throw wrongHere();
                    }
                    must("style");
                    int n = number(0, 3);
                    Condition c = (p, at, g) -> true;
                    if (peek().equals("if")) {
                        next();
                        c = any(0);
                    }
                    lines.add(new StyleLine(n, c));
                } while (peek().equals(";"));
                if (!peek().isEmpty()) {
                    throw wrongHere();
                }
            }
            fault = -1;
        } catch (Wrong w) {
            fault = w.place;
            throw new IllegalArgumentException();
        }
        if (x.rules.size() == 6) {
            throw new UnsupportedOperationException();
        }
        x.rules.add(lines);
        return x.rules.size() - 1;
    }

    private Condition any(int depth) throws Wrong {
        Condition left = all(depth);
        while (peek().equals("or")) {
            next();
            Condition l = left;
            Condition r = all(depth);
            left = (p, at, g) -> l.holds(p, at, g) || r.holds(p, at, g);
        }
        return left;
    }

    private Condition all(int depth) throws Wrong {
        Condition left = atom(depth);
        while (peek().equals("and")) {
            next();
            Condition l = left;
            Condition r = atom(depth);
            left = (p, at, g) -> l.holds(p, at, g) && r.holds(p, at, g);
        }
        return left;
    }

    private Condition atom(int depth) throws Wrong {
        String t = peek();
        if ((t.equals("not") || t.equals("(")) && depth == 6) {
            throw wrongHere();
        }
        switch (t) {
            case "not": {
                next();
                Condition c = atom(depth + 1);
                return (p, at, g) -> !c.holds(p, at, g);
            }
            case "(": {
                next();
                Condition c = any(depth + 1);
                must(")");
                return c;
            }
            case "serving":
                next();
                return (p, at, g) -> at.server() == p;
            case "off":
                next();
                return (p, at, g) -> at.off();
            default:
                break;
        }
        Sum l = sum();
        String sign = peek();
        if (!sign.equals("<") && !sign.equals(">")) {
            throw wrongHere();
        }
        next();
        Sum r = sum();
        return sign.equals("<")
            ? (p, at, g) -> l.value(p, at, g) < r.value(p, at, g)
            : (p, at, g) -> l.value(p, at, g) > r.value(p, at, g);
    }

    private Sum sum() throws Wrong {
        Sum left = part();
        while (peek().equals("+")) {
            next();
            Sum l = left;
            Sum r = part();
            left = (p, at, g) -> l.value(p, at, g) + r.value(p, at, g);
        }
        return left;
    }

    private Sum part() throws Wrong {
        switch (peek()) {
            case "mine":
                next();
                return (p, at, g) -> at.points(p) + 3;
            case "his":
                next();
                return (p, at, g) -> at.points(1 - p) + 3;
            case "line":
                next();
                return (p, at, g) -> at.chases().isEmpty() ? 10
                    : at.off() ? at.chases().get(0) : at.chases().get(at.chases().size() - 1);
            case "chases":
                next();
                return (p, at, g) -> at.chases().size();
            case "games":
                next();
                return (p, at, g) -> g;
            default:
                int n = number(0, 999);
                return (p, at, g) -> n;
        }
    }

    int fault() {
        return fault;
    }

    // ---- looking ----

    int look(int s, int h, int what) {
        if (s < 0 || s > 3 || h < 0 || h > 3) {
            throw new IndexOutOfBoundsException();
        }
        if (what < 0 || what > 11) {
            throw new NoSuchElementException();
        }
        return x.chances[s][h][what];
    }

    private void player(int... ps) {
        for (int p : ps) {
            if (p < 0 || p > 1) {
                throw new IndexOutOfBoundsException();
            }
        }
    }

    private void rallies(int n) {
        if (n < 0 || n > 30) {
            throw new IllegalArgumentException();
        }
    }

    private boolean over(int[] games) {
        return games[0] >= x.setGames || games[1] >= x.setGames;
    }

    private void going() {
        if (over(x.games)) {
            throw new IllegalStateException();
        }
    }

    int plays(int p, int rule) {
        player(p);
        if (rule < -1 || rule >= x.rules.size()) {
            throw new IndexOutOfBoundsException();
        }
        int was = x.by[p];
        x.by[p] = rule;
        return was;
    }

    private int styleAt(int p, At at, int[] games) {
        if (x.by[p] >= 0) {
            for (StyleLine l : x.rules.get(x.by[p])) {
                if (l.condition().holds(p, at, games[p])) {
                    return l.style();
                }
            }
        }
        return 0;
    }

    int style(int p) {
        player(p);
        return styleAt(p, x.at, x.games);
    }

    void score(int a, int b, int server) {
        player(server);
        boolean fine = Math.min(a, b) >= -3 && (Math.max(a, b) <= 3 || Math.max(a, b) == 4 && Math.min(a, b) == 3);
        if (!fine) {
            throw new IllegalArgumentException();
        }
        x.at = new At(a, b, server, List.of(), false, -1);
    }

    void games(int a, int b) {
        if (a < 0 || a > 6 || b < 0 || b > 6) {
            throw new IllegalArgumentException();
        }
        x.games = new int[] {a, b};
    }

    void begin(int owed, int given) {
        if (owed < 0 || owed > 3 || given < 0 || given > 3) {
            throw new IllegalArgumentException();
        }
        x.owed = owed;
        x.given = given;
    }

    private int tell(At at, int[] games, int what) {
        return switch (what) {
            case 0 -> at.a();
            case 1 -> at.b();
            case 2 -> at.server();
            case 3 -> at.chases().size();
            case 4 -> at.chases().isEmpty() ? -1 : at.chases().get(0);
            case 5 -> at.chases().size() < 2 ? -1 : at.chases().get(1);
            case 6 -> at.off() ? 1 : 0;
            case 7 -> games[0];
            case 8 -> games[1];
            case 9 -> at.pointOfGame() ? 1 : 0;
            default -> throw new NoSuchElementException();
        };
    }

    int stands(int what) {
        return tell(x.at, x.games, what);
    }

    // ---- what a rally does ----

    private At point(At at, int p) {
        int a = at.a() + (p == 0 ? 1 : 0);
        int b = at.b() + (p == 1 ? 1 : 0);
        if (a == 4 && b == 4) {
            a = 3;
            b = 3;
        }
        for (int w = 0; w < 2; w++) {
            int mine = w == 0 ? a : b;
            int his = w == 0 ? b : a;
            if (mine >= 4 && mine - his >= 2) {
                return new At(-x.owed, x.given, at.server(), List.of(), false, w);
            }
        }
        return new At(a, b, at.server(), at.chases(), at.off(), -1);
    }

    private At ends(At at) {
        if (at.winner() >= 0 || at.off() || at.chases().isEmpty()) {
            return at;
        }
        boolean two = at.chases().size() == 2;
        boolean change = switch (x.club) {
            case 0 -> two || at.pointOfGame();
            case 1 -> true;
            default -> two;
        };
        return change ? new At(at.a(), at.b(), 1 - at.server(), at.chases(), true, -1) : at;
    }

    /** whose: 0 nobody's, 1 the server's, 2 the striker's. */
    private int whose(At at, int how, int line) {
        if (how < 2) {
            return how + 1;
        }
        if (!at.off()) {
            return 0;
        }
        int chase = at.chases().get(0);
        return line < chase ? 2 : line > chase ? 1 : x.even;
    }

    private At playedOff(At at, int whose) {
        List<Integer> rest = at.chases().subList(1, at.chases().size());
        At then = new At(at.a(), at.b(), at.server(), List.copyOf(rest), !rest.isEmpty(), -1);
        return whose == 0 ? then : point(then, whose == 1 ? at.server() : 1 - at.server());
    }

    private At behind(At at, int how, int line) {
        if (at.off()) {
            return playedOff(at, whose(at, how, line));
        }
        if (how == 2) {
            List<Integer> more = new ArrayList<>(at.chases());
            more.add(line);
            return ends(new At(at.a(), at.b(), at.server(), List.copyOf(more), false, -1));
        }
        return ends(point(at, how == 0 ? at.server() : 1 - at.server()));
    }

    private static At goOn(At at, int[] games) {
        if (at.winner() < 0) {
            return at;
        }
        games[at.winner()]++;
        return new At(at.a(), at.b(), at.server(), at.chases(), at.off(), -1);
    }

    int rally(int how, int line) {
        if (how == 2 && (line < 0 || line > 9)) {
            throw new IndexOutOfBoundsException();
        }
        if (how < 0 || how > 2) {
            throw new IllegalArgumentException();
        }
        going();
        int whose = whose(x.at, how, line);
        x.at = goOn(behind(x.at, how, line), x.games);
        return whose;
    }

    boolean bisque(int p) {
        player(p);
        going();
        At then = ends(point(x.at, p));
        x.at = goOn(then, x.games);
        return then.winner() == p;
    }

    // ---- chances ----

    private final Map<Object, Integer> memo = new HashMap<>();

    /** way -1: whoever is at end 0 then. */
    private int chanceFrom(At at, int p, int way, int n) {
        if (at.winner() >= 0) {
            return at.winner() == p && (way < 0 || at.server() == way) ? 1000000000 : 0;
        }
        if (n == 0) {
            return 0;
        }
        Object key = List.of("c", at, p, way, n);
        Integer known = memo.get(key);
        if (known != null) {
            return known;
        }
        int[] ch = x.chances[styleAt(at.server(), at, x.games)][styleAt(1 - at.server(), at, x.games)];
        long sum = 0;
        for (int o = 0; o < 12; o++) {
            if (ch[o] > 0) {
                sum += (long) ch[o] * chanceFrom(behind(at, Math.min(o, 2), o - 2), p, way, n - 1);
            }
        }
        int v = (int) (sum / 100);
        memo.put(key, v);
        return v;
    }

    int chance(int p, int n) {
        player(p);
        rallies(n);
        going();
        memo.clear();
        return chanceFrom(x.at, p, -1, n);
    }

    /** The value times 10, and the style. */
    private long bestFrom(At at, int p, int n) {
        if (at.winner() >= 0) {
            return at.winner() == p ? 10000000000L : 0;
        }
        if (n == 0) {
            return 9;
        }
        Object key = List.of("b", at, n);
        Integer known = memo.get(key);
        Integer knownStyle = memo.get(List.of("bs", at, n));
        if (known != null) {
            return known * 10L + knownStyle;
        }
        int most = -1;
        int style = -1;
        for (int own = 0; own < 4; own++) {
            int other = styleAt(1 - p, at, x.games);
            int[] ch = at.server() == p ? x.chances[own][other] : x.chances[other][own];
            long sum = 0;
            for (int o = 0; o < 12; o++) {
                if (ch[o] > 0) {
                    sum += ch[o] * (bestFrom(behind(at, Math.min(o, 2), o - 2), p, n - 1) / 10);
                }
            }
            if (sum / 100 > most) {
                most = (int) (sum / 100);
                style = own;
            }
        }
        memo.put(key, most);
        memo.put(List.of("bs", at, n), style);
        return most * 10L + style;
    }

    int best(int p, int n, boolean style) {
        player(p);
        rallies(n);
        going();
        memo.clear();
        if (!style) {
            return (int) (bestFrom(x.at, p, n) / 10);
        }
        return n == 0 ? -1 : (int) (bestFrom(x.at, p, n) % 10);
    }

    private boolean takes;

    private int savesFrom(At at, int p, int n) {
        if (at.winner() >= 0) {
            return at.winner() == p ? 1000000000 : 0;
        }
        if (n == 0) {
            takes = false;
            return 0;
        }
        Object key = List.of("s", at, n);
        Integer known = memo.get(key);
        if (known != null) {
            return known;
        }
        int[] ch = x.chances[styleAt(at.server(), at, x.games)][styleAt(1 - at.server(), at, x.games)];
        long sum = 0;
        for (int o = 0; o < 12; o++) {
            if (ch[o] > 0) {
                sum += (long) ch[o] * savesFrom(behind(at, Math.min(o, 2), o - 2), p, n - 1);
            }
        }
        int go = (int) (sum / 100);
        int take = chanceFrom(ends(point(at, p)), p, -1, n);
        takes = take > go;
        memo.put(key, Math.max(go, take));
        return Math.max(go, take);
    }

    int saves(int p, int n, int what) {
        player(p);
        rallies(n);
        going();
        if (what < 0 || what > 2) {
            throw new NoSuchElementException();
        }
        memo.clear();
        int saved = savesFrom(x.at, p, n);
        return what == 0 ? saved : what == 1 ? (takes ? 1 : 0) : saved - chanceFrom(x.at, p, -1, n);
    }

    int worth(int p, int line, int n) {
        player(p);
        if (line < 0 || line > 9) {
            throw new IndexOutOfBoundsException();
        }
        rallies(n);
        going();
        if (x.at.off()) {
            return -2000000000;
        }
        memo.clear();
        return chanceFrom(behind(x.at, 2, line), p, -1, n) - chanceFrom(x.at, p, -1, n);
    }

    private At fresh(int server) {
        return new At(-x.owed, x.given, server, List.of(), false, -1);
    }

    private long setFrom(At at, int g0, int g1, int p, int n) {
        if (g0 >= x.setGames || g1 >= x.setGames) {
            return (p == 0 ? g0 : g1) >= x.setGames ? 1000000000 : 0;
        }
        long sum = 0;
        for (int w = 0; w < 2; w++) {
            for (int e = 0; e < 2; e++) {
                long c = chanceFrom(at, w, e, n);
                if (c > 0) {
                    sum += c * setFrom(fresh(e), g0 + 1 - w, g1 + w, p, n) / 1000000000;
                }
            }
        }
        return sum;
    }

    int set(int p, int n) {
        player(p);
        rallies(n);
        going();
        memo.clear();
        return (int) setFrom(x.at, x.games[0], x.games[1], p, n);
    }

    int ways(int server, int winner, int then, int n) {
        player(server, winner, then);
        rallies(n);
        memo.clear();
        return chanceFrom(fresh(server), winner, then, n);
    }

    int even(int n, int millionths) {
        rallies(n);
        if (millionths < 0 || millionths > 500000) {
            throw new IllegalArgumentException();
        }
        memo.clear();
        for (int both = 0; both <= 6; both++) {
            for (int given = 0; given <= 3; given++) {
                int owed = both - given;
                if (owed < 0 || owed > 3) {
                    continue;
                }
                long c = chanceFrom(new At(-owed, given, x.at.server(), List.of(), false, -1), 0, -1, n);
                if (Math.abs(c - 500000000L) <= millionths * 1000L) {
                    return 10 * owed + given;
                }
            }
        }
        return -1;
    }

    // ---- logs ----

    private static List<int[]> logOf(String t) {
        if (!t.matches("(w0|l0|d[0-9]){0,30}")) {
            throw new IllegalArgumentException();
        }
        List<int[]> all = new ArrayList<>();
        for (int i = 0; i < t.length(); i += 2) {
            all.add(new int[] {"wld".indexOf(t.charAt(i)), t.charAt(i + 1) - 48});
        }
        return all;
    }

    int log(int what) {
        List<int[]> all = logOf(use());
        At at = x.at;
        int[] games = x.games.clone();
        for (int[] r : all) {
            if (over(games)) {
                throw new IllegalStateException();
            }
            at = goOn(behind(at, r[0], r[1]), games);
        }
        return tell(at, games, what);
    }

    private Map<Object, long[]> mendMemo;

    /** From there on: how few (or none: null), and in how many ways. */
    private long[] mendFrom(List<int[]> all, int i, At at, int g0, int g1, int[] goal) {
        if (i == all.size()) {
            boolean is = at.a() == goal[0] && at.b() == goal[1] && g0 == goal[2] && g1 == goal[3];
            return is ? new long[] {0, 1} : new long[] {99, 0};
        }
        int[] games = {g0, g1};
        if (over(games)) {
            return new long[] {99, 0};
        }
        Object key = List.of(i, at, g0, g1);
        long[] known = mendMemo.get(key);
        if (known != null) {
            return known;
        }
        int[] r = all.get(i);
        long[] found = {99, 0};
        if (r[0] == 2 && at.off()) {
            int chase = at.chases().get(0);
            String called = r[1] < chase ? "better" : r[1] > chase ? "worse" : "same";
            for (String call : List.of("better", "worse", "same")) {
                int whose = call.equals("better") ? 2 : call.equals("worse") ? 1 : x.even;
                int[] g = games.clone();
                At then = goOn(playedOff(at, whose), g);
                add(found, mendFrom(all, i + 1, then, g[0], g[1], goal), call.equals(called) ? 0 : 1);
            }
        } else {
            int[] g = games.clone();
            At then = goOn(behind(at, r[0], r[1]), g);
            add(found, mendFrom(all, i + 1, then, g[0], g[1], goal), 0);
        }
        mendMemo.put(key, found);
        return found;
    }

    private static void add(long[] found, long[] more, int cost) {
        if (more[1] == 0) {
            return;
        }
        if (found[1] == 0 || more[0] + cost < found[0]) {
            found[0] = more[0] + cost;
            found[1] = more[1];
        } else if (more[0] + cost == found[0]) {
            found[1] += more[1];
        }
    }

    long mends(int a, int b, int games, int others, boolean ways) {
        List<int[]> all = logOf(use());
        mendMemo = new HashMap<>();
        long[] found = mendFrom(all, 0, x.at, x.games[0], x.games[1], new int[] {a, b, games, others});
        return ways ? found[1] : found[1] == 0 ? -1 : found[0];
    }

    int play(int seed, int n, int what) {
        if (n < 0 || n > 200) {
            throw new IllegalArgumentException();
        }
        if (what < 0 || what > 10) {
            throw new NoSuchElementException();
        }
        At at = x.at;
        int[] games = x.games.clone();
        int played = 0;
        long s = seed;
        while (played < n && !over(games)) {
            s = (int) (1103515245L * s + 12345L);
            int drawn = (int) ((s & 0x7fffffffL) >> 16) % 100;
            int[] ch = x.chances[styleAt(at.server(), at, games)][styleAt(1 - at.server(), at, games)];
            int o = 0;
            int below = ch[0];
            while (drawn >= below) {
                below += ch[++o];
            }
            at = goOn(behind(at, Math.min(o, 2), o - 2), games);
            played++;
        }
        return what == 10 ? played : tell(at, games, what);
    }

    void image() {
        image = x.copy();
    }

    boolean back() {
        if (image == null) {
            return false;
        }
        x = image.copy();
        return true;
    }

    int count(int what) {
        return switch (what) {
            case 0 -> x.texts;
            case 1 -> x.rules.size();
            case 2 -> x.setGames;
            case 3 -> x.club;
            case 4 -> x.even;
            case 5 -> x.owed;
            case 6 -> x.given;
            default -> -1;
        };
    }
}
