import java.nio.charset.StandardCharsets;
import java.util.Arrays;
import java.util.Random;
import java.util.concurrent.Callable;

/** Random runs of calls on ChaseCourt and on PlainCourt, whose answers must be the same. Arguments: first seed, runs. */
public final class RandomRunsTest {
    private static final int CALLS = 120;

    private final Random random;
    private final long seed;
    private final ChaseCourt mine = new ChaseCourt();
    private final PlainCourt plain = new PlainCourt();
    private final StringBuilder story = new StringBuilder();
    private final int liveliness;
    private boolean wrong;
    private String latest = "";

    private RandomRunsTest(long seed) {
        this.seed = seed;
        this.random = new Random(seed);
        this.liveliness = random.nextInt(4);
    }

    public static void main(String[] args) {
        long first = args.length > 0 ? Long.parseLong(args[0]) : 1;
        int runs = args.length > 1 ? Integer.parseInt(args[1]) : 400;
        int bad = 0;
        for (long seed = first; seed < first + runs && bad < 3; seed++) {
            RandomRunsTest run = new RandomRunsTest(seed);
            run.go();
            if (run.wrong) {
                bad++;
            }
        }
        System.out.println(bad == 0 ? runs + " random runs are as the plain model's" : bad + " random runs differ");
        if (bad != 0) {
            System.exit(1);
        }
    }

    private int any(int bound) {
        return random.nextInt(bound);
    }

    /** Mostly within 0 .. bound - 1, at times just out of it. */
    private int near(int bound) {
        return any(14) == 0 ? (any(2) == 0 ? -1 - any(2) : bound + any(2)) : any(bound);
    }

    private static String outcome(Callable<Object> call) {
        try {
            return String.valueOf(call.call());
        } catch (Exception e) {
            return "throws." + e.getClass().getSimpleName();
        }
    }

    private void same(String name, Callable<Object> a, Callable<Object> b) {
        if (wrong) {
            return;
        }
        String got = outcome(a);
        String due = outcome(b);
        latest = due;
        story.append("  ").append(name).append(" = ").append(due).append('\n');
        if (!got.equals(due)) {
            wrong = true;
            System.out.println("seed " + seed + ": " + name + " answered " + got + ", due is " + due + "\n" + story);
        }
    }

    private void feed(byte[] text) {
        for (int i = 0; i < text.length; i += 20) {
            int[] n = new int[5];
            for (int j = 0; j < 20; j++) {
                int v = i + j < text.length ? text[i + j] & 255 : 0;
                n[j / 4] = n[j / 4] << 8 | v;
            }
            same("feed", () -> mine.feed(n[0], n[1], n[2], n[3], n[4]), () -> plain.feed(n));
        }
        same("end(" + text.length + ")", () -> mine.end(text.length), () -> plain.end(text.length));
    }

    private void feed(String text) {
        story.append("  text '").append(text).append("'\n");
        feed(text.getBytes(StandardCharsets.ISO_8859_1));
    }

    private String blank() {
        return any(12) == 0 ? "  " : " ";
    }

    private String courtText() {
        StringBuilder b = new StringBuilder();
        int pairs = 1 + any(liveliness < 2 ? 1 : 2);
        for (int i = 0; i < pairs; i++) {
            String head = "rally " + any(4) + blank() + any(any(2) == 0 ? 1 : 4);
            int[] parts = new int[12];
            int left = 100;
            int lines = any(4) == 0 && pairs == 1 ? 10 : any(4);
            for (int k = 0; k < lines; k++) {
                int v = Math.min(left, any(25));
                int line = lines == 10 ? k : any(10);
                parts[2 + line] += v;
                left -= v;
            }
            parts[0] = any(left + 1);
            parts[1] = left - parts[0];
            int[] now = new int[12];
            String[] head2 = head.split(" +");
            for (int o = 0; o < 12; o++) {
                now[o] = mine.look(Integer.parseInt(head2[1]), Integer.parseInt(head2[2]), o);
            }
            for (int o = 0; o < 12; o++) {
                if (parts[o] != now[o] || any(12) == 0) {
                    String what = o == 0 ? "won" : o == 1 ? "lost" : "dead" + blank() + (o - 2);
                    b.append(b.length() > 0 ? ";" : "").append(head).append(' ').append(what).append(blank()).append(parts[o]);
                }
            }
        }
        String[] laws = {"games " + (1 + any(6)), "club " + any(3), "even " + any(2)};
        for (String law : laws) {
            if (any(3) == 0) {
                b.append(b.length() > 0 ? blank() + ";" : "").append(law);
            }
        }
        return b.toString();
    }

    private String sum() {
        String[] parts = {"mine", "his", "line", "chases", "games", String.valueOf(any(12)), String.valueOf(any(5))};
        StringBuilder b = new StringBuilder(parts[any(parts.length)]);
        while (any(4) == 0) {
            b.append(any(2) == 0 ? "+" : " + ").append(parts[any(parts.length)]);
        }
        return b.toString();
    }

    private String atom(int depth) {
        int kind = any(depth > 7 ? 4 : 7);
        return switch (kind) {
            case 0 -> "serving";
            case 1 -> "off";
            case 2, 3, 6 -> sum() + (any(2) == 0 ? "<" : " > ") + sum();
            case 4 -> "not " + atom(depth + 1);
            default -> "(" + condition(depth + 1) + ")";
        };
    }

    private String condition(int depth) {
        StringBuilder b = new StringBuilder(atom(depth));
        while (any(3) == 0 && b.length() < 150) {
            b.append(any(2) == 0 ? " or " : " and ").append(atom(depth));
        }
        return b.toString();
    }

    private String ruleText() {
        StringBuilder b = new StringBuilder();
        int lines = any(20) == 0 ? 11 + any(4) : any(4);
        for (int i = 0; i < lines && b.length() < 300; i++) {
            b.append(i > 0 ? ";" : "").append("style ").append(any(4));
            if (any(5) != 0 && lines < 10) {
                b.append(" if ").append(condition(0));
            }
        }
        return b.toString();
    }

    private String spoiled(String text) {
        if (any(3) != 0 || text.isEmpty()) {
            return text;
        }
        StringBuilder b = new StringBuilder(text);
        String signs = "abz019;;(()+<> \u00e9A\n";
        for (int n = 1 + any(2); n > 0 && b.length() > 0; n--) {
            int at = any(b.length());
            switch (any(4)) {
                case 0 -> b.deleteCharAt(at);
                case 1 -> b.setCharAt(at, signs.charAt(any(signs.length())));
                case 2 -> b.insert(at, signs.charAt(any(signs.length())));
                default -> b.setLength(at);
            }
        }
        return b.toString();
    }

    private String logText() {
        StringBuilder b = new StringBuilder();
        int rallies = any(12) == 0 ? 29 + any(3) : any(any(3) == 0 ? 30 : 8);
        for (int i = 0; i < rallies; i++) {
            int kind = any(5);
            b.append(kind == 0 ? "w0" : kind == 1 ? "l0" : "d" + any(10));
        }
        if (any(15) == 0 && b.length() > 0) {
            b.setCharAt(any(b.length()), "wld01x".charAt(any(6)));
        }
        if (any(30) == 0) {
            b.append('w');
        }
        return b.toString();
    }

    /** What comes of the log, with some of its lines called otherwise. */
    private int[] goalNear(String log) {
        StringBuilder b = new StringBuilder(log);
        for (int i = 0; i + 1 < b.length(); i += 2) {
            if (b.charAt(i) == 'd' && any(3) == 0) {
                b.setCharAt(i + 1, (char) ('0' + any(10)));
            }
        }
        int[] goal = new int[4];
        int[] whats = {0, 1, 7, 8};
        for (int i = 0; i < 4; i++) {
            int what = whats[i];
            feed(b.toString());
            same("log(" + what + ")", () -> mine.log(what), () -> plain.log(what));
            goal[i] = latest.startsWith("throws") ? any(3) : Integer.parseInt(latest);
        }
        return goal;
    }

    private int rallies() {
        if (any(20) == 0) {
            return any(2) == 0 ? -1 : 31;
        }
        return any(12) == 0 ? 30 : any(liveliness == 0 ? 31 : 11);
    }

    private void go() {
        if (any(6) != 0) {
            feed("games " + (2 + any(5)));
            same("court()", mine::court, plain::court);
        }
        for (int i = 0; i < CALLS && !wrong; i++) {
            if (i < 4 || any(14) == 0) {
                tell();
            } else if (any(3) == 0) {
                change();
            } else {
                ask();
            }
        }
        for (int w = 0; w < 10 && !wrong; w++) {
            int what = w;
            same("stands(" + w + ")", () -> mine.stands(what), () -> plain.stands(what));
        }
    }

    private void tell() {
        if (any(2) == 0) {
            String text = spoiled(courtText());
            feed(text.length() > 400 ? text.substring(0, 400) : text);
            same("court()", mine::court, plain::court);
        } else {
            String text = spoiled(ruleText());
            feed(text.length() > 400 ? text.substring(0, 400) : text);
            same("rule()", mine::rule, plain::rule);
            int p = any(2);
            int r = any(mine.count(1) + 1) - 1;
            same("plays(" + p + ", " + r + ")", () -> mine.plays(p, r), () -> plain.plays(p, r));
        }
        same("fault()", mine::fault, plain::fault);
    }

    private void change() {
        int a = any(9) - 4;
        int b = any(9) - 4;
        int p = near(2);
        switch (any(9)) {
            case 0 -> same("score(" + a + ", " + b + ", " + p + ")", () -> {
                mine.score(a, b, p);
                return null;
            }, () -> {
                plain.score(a, b, p);
                return null;
            });
            case 1 -> {
                int g = any(4) == 0 ? near(7) : any(2);
                int h = any(4) == 0 ? near(7) : any(2);
                same("games(" + g + ", " + h + ")", () -> {
                    mine.games(g, h);
                    return null;
                }, () -> {
                    plain.games(g, h);
                    return null;
                });
            }
            case 2 -> {
                int o = near(4);
                int g = near(4);
                same("begin(" + o + ", " + g + ")", () -> {
                    mine.begin(o, g);
                    return null;
                }, () -> {
                    plain.begin(o, g);
                    return null;
                });
            }
            case 3 -> same("bisque(" + p + ")", () -> mine.bisque(p), () -> plain.bisque(p));
            case 4 -> {
                if (any(3) == 0) {
                    mine.image();
                    plain.image();
                    story.append("  image()\n");
                } else {
                    same("back()", mine::back, plain::back);
                }
            }
            default -> {
                int how = any(2) == 0 ? 2 : near(3);
                int line = near(10);
                same("rally(" + how + ", " + line + ")", () -> mine.rally(how, line), () -> plain.rally(how, line));
            }
        }
    }

    private void ask() {
        int p = near(2);
        int q = near(2);
        int r = near(2);
        int n = rallies();
        int line = near(10);
        int what = near(10);
        boolean flag = any(2) == 0;
        switch (any(15)) {
            case 0 -> same("look", () -> mine.look(p + 1, line, what), () -> plain.look(p + 1, line, what));
            case 1 -> same("style(" + p + ")", () -> mine.style(p), () -> plain.style(p));
            case 2, 3 -> same("stands(" + what + ")", () -> mine.stands(what), () -> plain.stands(what));
            case 4 -> same("chance(" + p + ", " + n + ")", () -> mine.chance(p, n), () -> plain.chance(p, n));
            case 5 -> same("best(" + p + ", " + n + ", " + flag + ")", () -> mine.best(p, n, flag), () -> plain.best(p, n, flag));
            case 6 -> {
                int w = near(3);
                same("saves(" + p + ", " + n + ", " + w + ")", () -> mine.saves(p, n, w), () -> plain.saves(p, n, w));
            }
            case 7 -> same("worth(" + p + ", " + line + ", " + n + ")", () -> mine.worth(p, line, n), () -> plain.worth(p, line, n));
            case 8 -> same("set(" + p + ", " + n + ")", () -> mine.set(p, n), () -> plain.set(p, n));
            case 9 -> same("ways(" + p + ", " + q + ", " + r + ", " + n + ")", () -> mine.ways(p, q, r, n), () -> plain.ways(p, q, r, n));
            case 10 -> {
                int m = any(10) == 0 ? near(500001) : any(any(2) == 0 ? 500000 : 100000);
                same("even(" + n + ", " + m + ")", () -> mine.even(n, m), () -> plain.even(n, m));
            }
            case 11 -> {
                feed(logText());
                same("log(" + what + ")", () -> mine.log(what), () -> plain.log(what));
            }
            case 12 -> {
                String log = logText();
                int[] goal = any(4) == 0 ? new int[] {any(6) - 1, any(6) - 1, any(3), any(3)} : goalNear(log);
                for (int ways = 0; ways < 2; ways++) {
                    boolean w = ways == 1;
                    feed(log);
                    same("mends(" + Arrays.toString(goal) + ", " + w + ")",
                        () -> mine.mends(goal[0], goal[1], goal[2], goal[3], w),
                        () -> plain.mends(goal[0], goal[1], goal[2], goal[3], w));
                }
            }
            case 13 -> {
                int seed = random.nextInt();
                int m = any(15) == 0 ? near(201) : any(201);
                int w = near(11);
                same("play(" + seed + ", " + m + ", " + w + ")", () -> mine.play(seed, m, w), () -> plain.play(seed, m, w));
            }
            default -> {
                int w = near(7);
                same("count(" + w + ")", () -> mine.count(w), () -> plain.count(w));
            }
        }
    }
}
