import java.lang.annotation.ElementType;
import java.lang.annotation.Retention;
import java.lang.annotation.RetentionPolicy;
import java.lang.annotation.Target;
import java.lang.reflect.InvocationTargetException;
import java.lang.reflect.Method;
import java.nio.file.Files;
import java.nio.file.Path;
import java.util.ArrayList;
import java.util.Comparator;
import java.util.List;
import java.util.regex.Matcher;
import java.util.regex.Pattern;

/**
 * Runs tests that each bear the sentence of the document that they hold it to. A test's name tells where the sentence
 * stands: promise07_... in "Promise 7", terms2_... in "Terms" behind "==== 2.", object_... anywhere.
 */
final class Boundary {
    /** The document's words. */
    @Retention(RetentionPolicy.RUNTIME)
    @Target(ElementType.METHOD)
    @interface Says {
        String[] value();
    }

    private Boundary() {
    }

    static void runAll(Class<?> tests) throws Exception {
        for (Method test : testsOf(tests)) {
            Check.within(test.getName());
            String section = section(test.getName());
            for (String words : wordsOf(test)) {
                Check.same("the document says '" + words + "' there", section.contains(words), true);
            }
            run(test);
        }
        Check.close();
    }

    private static void run(Method test) throws Exception {
        test.setAccessible(true);
        try {
            test.invoke(null);
        } catch (InvocationTargetException e) {
            Check.same("ends", e.getCause() + " at " + e.getCause().getStackTrace()[0], "without an exception");
        }
    }

    static List<Method> testsOf(Class<?> tests) {
        List<Method> all = new ArrayList<>();
        for (Method m : tests.getDeclaredMethods()) {
            if (m.isAnnotationPresent(Says.class)) {
                all.add(m);
            }
        }
        all.sort(Comparator.comparing(Method::getName));
        return all;
    }

    static String[] wordsOf(Method test) {
        return test.getAnnotation(Says.class).value();
    }

    /** The document with one blank where it has several, or an end of a line. */
    static String document() throws Exception {
        return Files.readString(Path.of("../shared/DOC.md")).replaceAll("\\s+", " ");
    }

    static String section(String test) throws Exception {
        String text = document();
        Matcher name = Pattern.compile("(promise|terms|object)(\\d*)_.+").matcher(test);
        if (!name.matches()) {
            return "";
        }
        return switch (name.group(1)) {
            case "promise" -> promise(text, Integer.parseInt(name.group(2)));
            case "terms" -> terms(text, Integer.parseInt(name.group(2)));
            default -> text;
        };
    }

    static String promise(String text, int number) {
        int from = text.indexOf("## Promise " + number + ":");
        return from < 0 ? "" : text.substring(from, text.indexOf(" ## ", from));
    }

    /** Part 1 begins with the section itself. */
    static String terms(String text, int part) {
        String section = text.substring(text.indexOf("## Terms"), text.indexOf("## Promise 1:"));
        String[] parts = section.split("==== \\d\\. ");
        return part < 1 || part > parts.length ? "" : parts[part - 1];
    }
}
