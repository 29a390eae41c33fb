import java.util.concurrent.Callable;

/** What the tests share: texts on the tape, and answers that are looked at. */
final class Check {
    private static int wrong;
    private static int looked;

    private Check() {
    }

    static void same(String what, Object got, Object due) {
        looked++;
        if (!String.valueOf(got).equals(String.valueOf(due))) {
            wrong++;
            System.out.println(what + ": answered " + got + ", due is " + due);
        }
    }

    static void fails(String what, Class<? extends RuntimeException> due, Callable<Object> call) {
        String got;
        try {
            got = String.valueOf(call.call());
        } catch (Exception e) {
            got = e.getClass().getName();
        }
        same(what, got, due.getName());
    }

    /** Puts the text on the tape, behind what is there. */
    static void put(ChaseCourt x, String text) {
        int had = 0;
        for (int i = 0; i < text.length(); i += 20) {
            int[] n = new int[5];
            for (int j = 0; j < 20; j++) {
                n[j / 4] = n[j / 4] << 8 | (i + j < text.length() ? text.charAt(i + j) & 255 : 0);
            }
            had = x.feed(n[0], n[1], n[2], n[3], n[4]);
        }
        if (!text.isEmpty()) {
            int spare = (20 - text.length() % 20) % 20;
            if (had < 0 || !x.end(had - spare)) {
                throw new IllegalStateException("the test's text is too long");
            }
        }
    }

    static int court(ChaseCourt x, String text) {
        put(x, text);
        return x.court();
    }

    static int rule(ChaseCourt x, String text) {
        put(x, text);
        return x.rule();
    }

    static String stands(ChaseCourt x) {
        StringBuilder b = new StringBuilder();
        for (int what = 0; what < 10; what++) {
            b.append(what > 0 ? " " : "").append(x.stands(what));
        }
        return b.toString();
    }

    static void close() {
        System.out.println(wrong == 0 ? looked + " answers are as due" : wrong + " of " + looked + " answers are not as due");
        if (wrong != 0) {
            System.exit(1);
        }
    }
}
