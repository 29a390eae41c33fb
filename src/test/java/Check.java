import java.util.concurrent.Callable;

/** What the tests share: texts on the tape, and answers that are looked at. */
final class Check {
    private static int wrong;
    private static int looked;
    private static String within = "";

    private Check() {
    }

    /** The test that what comes next belongs to. */
    static void within(String test) {
        within = test + ": ";
    }

    static void same(String what, Object got, Object due) {
        looked++;
        if (!String.valueOf(got).equals(String.valueOf(due))) {
            wrong++;
            System.out.println(within + what + ": answered " + got + ", due is " + due);
        }
    }

    static void fails(String what, Class<? extends RuntimeException> due, Callable<Object> call) {
        String got;
        try {
            got = String.valueOf(call.call());
        } catch (Exception e) {
            got = e.getClass().getName();
        }
        same(what, got, due.getName());
    }

    static void fails(String what, Class<? extends RuntimeException> due, Runnable call) {
        fails(what, due, answering(call));
    }

    /** A call that is refused: what it throws, and that all but the tape is as it was. */
    static void refused(String what, ChaseCourt x, Class<? extends RuntimeException> due, Callable<Object> call) {
        String before = all(x);
        fails(what, due, call);
        same(what + ", and nothing changed", all(x), before);
    }

    static void refused(String what, ChaseCourt x, Class<? extends RuntimeException> due, Runnable call) {
        refused(what, x, due, answering(call));
    }

    private static Callable<Object> answering(Runnable call) {
        return () -> {
            call.run();
            return "nothing thrown";
        };
    }

    /** Puts the text on the tape, behind what is there. */
    static void put(ChaseCourt x, String text) {
        int had = 0;
        for (int i = 0; i < text.length(); i += 20) {
            int[] n = new int[5];
            for (int j = 0; j < 20; j++) {
                n[j / 4] = n[j / 4] << 8 | (i + j < text.length() ? text.charAt(i + j) & 255 : 0);
            }
            had = x.feed(n[0], n[1], n[2], n[3], n[4]);
        }
        if (!text.isEmpty()) {
            int spare = (20 - text.length() % 20) % 20;
            if (had < 0 || !x.end(had - spare)) {
                throw new IllegalStateException("the test's text is too long");
            }
        }
    }

    static int court(ChaseCourt x, String text) {
        put(x, text);
        return x.court();
    }

    static int rule(ChaseCourt x, String text) {
        put(x, text);
        return x.rule();
    }

    /** A new object that was told texts of the court. */
    static ChaseCourt courtOf(String... texts) {
        ChaseCourt x = new ChaseCourt();
        for (String text : texts) {
            court(x, text);
        }
        return x;
    }

    /** A text of the court on a new object: its first wrong byte, or -1 for a right one. */
    static void courtFault(String text, int due) {
        ChaseCourt x = new ChaseCourt();
        put(x, text);
        String got;
        try {
            got = "right " + x.court();
        } catch (IllegalArgumentException e) {
            got = "wrong";
        }
        same("4 court '" + text + "'", got, due < 0 ? "right 1" : "wrong");
        same("6 fault of '" + text + "'", x.fault(), due);
        same("28 texts behind '" + text + "'", x.count(0), due < 0 ? 1 : 0);
    }

    /** A rule on a new object: its first wrong byte, or -1 for a right one. */
    static void ruleFault(String text, int due) {
        ChaseCourt x = new ChaseCourt();
        put(x, text);
        String got;
        try {
            got = "right " + x.rule();
        } catch (IllegalArgumentException e) {
            got = "wrong";
        }
        same("5 rule '" + text + "'", got, due < 0 ? "right 0" : "wrong");
        same("6 fault of '" + text + "'", x.fault(), due);
        same("28 rules behind '" + text + "'", x.count(1), due < 0 ? 1 : 0);
    }

    static String stands(ChaseCourt x) {
        StringBuilder b = new StringBuilder();
        for (int what = 0; what < 10; what++) {
            b.append(what > 0 ? " " : "").append(x.stands(what));
        }
        return b.toString();
    }

    static String counts(ChaseCourt x) {
        StringBuilder b = new StringBuilder();
        for (int what = 0; what < 7; what++) {
            b.append(what > 0 ? " " : "").append(x.count(what));
        }
        return b.toString();
    }

    /** Won, lost, and dead at each line. */
    static String chances(ChaseCourt x, int server, int striker) {
        StringBuilder b = new StringBuilder();
        for (int what = 0; what < 12; what++) {
            b.append(what > 0 ? " " : "").append(x.look(server, striker, what));
        }
        return b.toString();
    }

    /** All that can be seen without the tape, by some 40 calls that change nothing. */
    static String all(ChaseCourt x) {
        return held(x) + ", fault " + x.fault();
    }

    /** What a wrong text leaves as it was: fault() tells of it. */
    static String held(ChaseCourt x) {
        StringBuilder b = new StringBuilder();
        for (int player = 0; player < 2; player++) {
            int rule = x.plays(player, ChaseCourt.NONE);
            x.plays(player, rule);
            b.append("player ").append(player).append(" by ").append(rule).append(" style ").append(x.style(player)).append(", ");
        }
        return b + "stands " + stands(x) + ", counts " + counts(x) + ", chances " + chances(x, 0, 0);
    }

    /** That the tape has so many bytes: looking changes nothing. */
    static void tapeHas(String what, ChaseCourt x, int bytes) {
        same(what + ": no byte more", x.end(bytes + 1), false);
        same(what + ": so many bytes", x.end(bytes), true);
    }

    static void close() {
        System.out.println(wrong == 0 ? looked + " answers are as due" : wrong + " of " + looked + " answers are not as due");
        if (wrong != 0) {
            System.exit(1);
        }
    }
}
