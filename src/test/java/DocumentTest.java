import java.lang.reflect.Method;
import java.util.ArrayList;
import java.util.BitSet;
import java.util.List;

/** That each sentence of the terms and of the promises is borne by a test of the boundary cases. */
public final class DocumentTest {
    private static final Class<?>[] TESTS = {TextBoundariesTest.class, ScoreBoundariesTest.class, ChanceBoundariesTest.class,
        LogBoundariesTest.class};
    private static final int PROMISES = 28;
    private static final int PARTS = 3;

    public static void main(String[] args) throws Exception {
        String document = Boundary.document();
        for (int part = 1; part <= PARTS; part++) {
            look("terms" + part, Boundary.terms(document, part));
        }
        for (int promise = 1; promise <= PROMISES; promise++) {
            look(String.format("promise%02d", promise), Boundary.promise(document, promise));
        }
        Check.same("there is no promise more", Boundary.promise(document, PROMISES + 1), "");
        Check.same("there is no part more", Boundary.terms(document, PARTS + 1), "");
        Check.close();
    }

    private static void look(String name, String section) {
        BitSet borne = new BitSet();
        int tests = 0;
        for (Class<?> c : TESTS) {
            for (Method test : Boundary.testsOf(c)) {
                if (test.getName().startsWith(name + "_")) {
                    tests++;
                    mark(borne, section, Boundary.wordsOf(test));
                }
            }
        }
        Check.same(name + " has a test", tests > 0, true);
        Check.same(name + " has words that no test bears", left(section, borne), List.of());
    }

    private static void mark(BitSet borne, String section, String[] all) {
        for (String words : all) {
            int at = section.indexOf(words);
            if (at >= 0) {
                borne.set(at, at + words.length());
            }
        }
    }

    /** Stretches with a letter in them, but for headings and the written face, at which FaceTest looks. */
    private static List<String> left(String section, BitSet borne) {
        List<String> left = new ArrayList<>();
        for (int at = borne.nextClearBit(0); at < section.length(); at = borne.nextClearBit(at)) {
            int until = borne.nextSetBit(at);
            until = until < 0 ? section.length() : until;
            String words = section.substring(at, until).replaceAll("## (Promise \\d+: (A new )?\\w+|Terms)|```(text)?|`[^`]*`:?", "").trim();
            if (words.matches(".*[A-Za-z0-9].*")) {
                left.add(words);
            }
            at = until;
        }
        return left;
    }
}
