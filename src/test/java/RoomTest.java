import com.sun.management.ThreadMXBean;
import java.lang.management.ManagementFactory;
import java.util.Random;

/** What a run of dear calls makes, that come again and again, must fit into the one room of all calls. */
public final class RoomTest {
    private static final ThreadMXBean THREADS = (ThreadMXBean) ManagementFactory.getThreadMXBean();
    /** The room has 7.3 million fields and elements; most of ours are ints. */
    private static final long MOST = 6_000_000L;
    private static final int CALLS = 200;
    private static int wrong;

    private static long made() {
        return THREADS.getThreadAllocatedBytes(Thread.currentThread().getId());
    }

    private static void tell(ChaseCourt x, String text) {
        for (int i = 0; i < text.length(); i += 20) {
            int[] n = new int[5];
            for (int j = 0; j < 20; j++) {
                n[j / 4] = n[j / 4] << 8 | (i + j < text.length() ? text.charAt(i + j) : 0);
            }
            x.feed(n[0], n[1], n[2], n[3], n[4]);
        }
        x.end(text.length());
    }

    /** Every style pair that 12 texts reach dies at each line at times. */
    private static ChaseCourt busy() {
        ChaseCourt x = new ChaseCourt();
        for (int pair = 0; pair < 12; pair++) {
            StringBuilder b = new StringBuilder();
            String head = "rally " + pair / 4 + " " + pair % 4;
            b.append(head).append(" won 20;").append(head).append(" lost 20");
            for (int line = 0; line < 10; line++) {
                b.append(';').append(head).append(" dead ").append(line).append(" 6");
            }
            if (pair == 0) {
                tell(x, "games 6");
                x.court();
            }
            if (pair < 11) {
                tell(x, b.toString());
                x.court();
            }
        }
        tell(x, "style 1 if serving and mine > his or line < 3;style 2 if off");
        x.rule();
        x.plays(0, 0);
        x.plays(1, 0);
        x.begin(3, 0);
        x.score(-3, -3, 0);
        return x;
    }

    private interface Call {
        void on(ChaseCourt x, int i);
    }

    private static void run(String name, boolean wide, Call call) {
        long before = made();
        long begin = System.nanoTime();
        ChaseCourt x = wide ? busy() : new ChaseCourt();
        for (int i = 0; i < CALLS; i++) {
            call.on(x, i);
        }
        long bytes = made() - before;
        System.out.println("  " + CALLS + " of " + name + ": " + bytes + " bytes made, " + (System.nanoTime() - begin) / 1000000 + " ms");
        if (bytes / 4 > MOST) {
            wrong++;
            System.out.println(name + ": too much is made");
        }
    }

    public static void main(String[] args) {
        made();
        run("best", true, (x, i) -> x.best(i % 2, 30, false));
        run("best, in a small court", false, (x, i) -> x.best(i % 2, 30, false));
        run("saves", true, (x, i) -> x.saves(i % 2, 30, i % 3));
        run("set", true, (x, i) -> x.set(i % 2, 30));
        run("even", true, (x, i) -> x.even(30, 0));
        run("worth", true, (x, i) -> x.worth(i % 2, i % 10, 30));
        run("play", true, (x, i) -> x.play(i, 200, 0));
        run("image", true, (x, i) -> {
            x.image();
            x.back();
        });
        Random random = new Random(1);
        run("mends", true, (x, i) -> {
            StringBuilder b = new StringBuilder();
            for (int j = 0; j < 30; j++) {
                b.append(random.nextInt(6) == 0 ? "w0" : random.nextInt(8) == 0 ? "l0" : "d" + random.nextInt(10));
            }
            x.begin(i % 4, i / 4 % 4);
            tell(x, b.toString());
            x.mends(0, 0, 1, 0, false);
        });
        run("rules", false, (x, i) -> {
            if (i == 0) {
                x.image();
            }
            StringBuilder b = new StringBuilder("style 1 if 1");
            while (b.length() < 385) {
                b.append("+1");
            }
            tell(x, b.append("<mine").toString());
            x.rule();
            x.back();
        });
        System.out.println(wrong == 0 ? "all runs have room" : wrong + " runs have no room");
        if (wrong != 0) {
            System.exit(1);
        }
    }
}
