import java.lang.reflect.InvocationTargetException;
import java.lang.reflect.Method;
import java.lang.reflect.Modifier;
import java.util.ArrayList;
import java.util.Arrays;
import java.util.Comparator;
import java.util.List;
import java.util.Random;
import java.util.Set;
import java.util.TreeSet;

/**
 * Random calls with wild arguments, up to the 512 that an object is used for: a call answers, or throws one of the
 * exceptions that it declares, and never one of the machine's; and two objects answer the same calls the same way. Each
 * method must have answered, and thrown each exception that it declares, at least once: else the runs tell too little.
 * Arguments: first seed, runs.
 */
public final class WildCallsTest {
    private static final int CALLS = 512;
    private static final int[] WILD = {Integer.MIN_VALUE, Integer.MIN_VALUE + 1, -1000000000, -65536, -401, -5, -4, -3, -2, -1,
        0, 1, 2, 3, 4, 5, 6, 7, 9, 10, 11, 12, 30, 31, 200, 201, 400, 401, 500000, 500001, 65536, 2147484, 1 << 30,
        Integer.MAX_VALUE - 20, Integer.MAX_VALUE - 1, Integer.MAX_VALUE};
    private static final String[] TEXTS = {
        "", "   ", ";", "games 6", "games 1", "club 1", "club 2;even 1", "club 0",
        "rally 0 0 won 10;rally 0 0 lost 10;rally 0 0 dead 0 20;rally 0 0 dead 5 30;rally 0 0 dead 9 30",
        "rally 1 0 won 0;rally 1 0 lost 0;rally 1 0 dead 4 100", "rally 0 1 won 100;rally 0 1 lost 0",
        "style 1", "style 1 if serving;style 2 if off or line<5;style 3 if mine+his>games+6",
        "style 3 if not (not (not (off and serving)))", "style 2 if ((((((1<2))))))", "style 2 if (((((((1<2)))))))",
        "style 0 if 999+999+999>line+chases", "d0d9d4", "w0l0d3d3d3", "d5d5d5d5d5d5d5d5d5d5d5d5d5d5d5", "w0w0w0w0w0", "d"};

    /** What came of calls, by the method's name. */
    private static final Set<String> SEEN = new TreeSet<>();

    private final Random random;
    private final long seed;
    private final ChaseCourt one = new ChaseCourt();
    private final ChaseCourt other = new ChaseCourt();
    private int calls;

    private WildCallsTest(long seed) {
        this.seed = seed;
        this.random = new Random(seed);
    }

    public static void main(String[] args) throws Exception {
        long first = args.length > 0 ? Long.parseLong(args[0]) : 1;
        int runs = args.length > 1 ? Integer.parseInt(args[1]) : 60;
        List<Method> face = new ArrayList<>();
        for (Method m : ChaseCourt.class.getDeclaredMethods()) {
            if (Modifier.isPublic(m.getModifiers())) {
                face.add(m);
            }
        }
        face.sort(Comparator.comparing(Method::getName));
        for (long seed = first; seed < first + runs; seed++) {
            new WildCallsTest(seed).go(face);
        }
        for (Method m : face) {
            Check.same(m.getName() + " answered", SEEN.contains(m.getName()), true);
            for (Class<?> e : m.getExceptionTypes()) {
                Check.same(m.getName() + " threw " + e.getSimpleName(), SEEN.contains(m.getName() + e.getName()), true);
            }
        }
        Check.close();
    }

    private void go(List<Method> face) throws Exception {
        while (calls < CALLS) {
            int kind = random.nextInt(6);
            if (kind == 0) {
                feedText(face);
            } else {
                Method m = face.get(random.nextInt(face.size()));
                call(m, arguments(m, kind < 2 ? 1 : 6));
            }
        }
    }

    private void feedText(List<Method> face) throws Exception {
        String text = TEXTS[random.nextInt(TEXTS.length)];
        call(named(face, "end"), 0);
        for (int i = 0; i < text.length(); i += 20) {
            Object[] n = new Object[5];
            for (int j = 0; j < 5; j++) {
                int number = 0;
                for (int k = i + 4 * j; k < i + 4 * j + 4; k++) {
                    number = number << 8 | (k < text.length() ? text.charAt(k) : 0);
                }
                n[j] = number;
            }
            call(named(face, "feed"), n);
        }
        call(named(face, "end"), text.length());
        String[] readers = {"court", "rule", "log", "mends"};
        Method reader = named(face, readers[random.nextInt(readers.length)]);
        call(reader, arguments(reader, 6));
    }

    private static Method named(List<Method> face, String name) {
        return face.stream().filter(m -> m.getName().equals(name)).findFirst().orElseThrow();
    }

    /** One argument of so many is wild: if all were, the one looked at first would hide the others. */
    private Object[] arguments(Method m, int oneOf) {
        Class<?>[] types = m.getParameterTypes();
        Object[] given = new Object[types.length];
        for (int i = 0; i < types.length; i++) {
            if (types[i] == boolean.class) {
                given[i] = random.nextBoolean();
            } else {
                given[i] = random.nextInt(oneOf) == 0 ? WILD[random.nextInt(WILD.length)] : tame();
            }
        }
        return given;
    }

    private int tame() {
        int[] bounds = {2, 2, 2, 2, 8, 31};
        return random.nextInt(bounds[random.nextInt(bounds.length)]);
    }

    private void call(Method m, Object... given) throws Exception {
        if (calls >= CALLS) {
            return;
        }
        calls++;
        String what = "seed " + seed + ", call " + calls + ": " + m.getName() + Arrays.toString(given);
        Check.same(what, answer(what, other, m, given), answer(what, one, m, given));
    }

    private static String answer(String what, ChaseCourt x, Method m, Object[] given) throws Exception {
        try {
            String got = String.valueOf(m.invoke(x, given));
            SEEN.add(m.getName());
            return got;
        } catch (InvocationTargetException e) {
            Class<?> thrown = e.getCause().getClass();
            if (!Arrays.asList(m.getExceptionTypes()).contains(thrown)) {
                Check.same(what, thrown.getName(), "an answer, or an exception that the face declares");
            }
            SEEN.add(m.getName() + thrown.getName());
            return "throws." + thrown.getSimpleName();
        }
    }
}
