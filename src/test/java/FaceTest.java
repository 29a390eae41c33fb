import java.lang.reflect.Constructor;
import java.lang.reflect.Field;
import java.lang.reflect.Method;
import java.lang.reflect.Modifier;
import java.nio.file.Files;
import java.nio.file.Path;
import java.util.ArrayList;
import java.util.Arrays;
import java.util.List;
import java.util.Set;
import java.util.TreeSet;
import java.util.regex.Matcher;
import java.util.regex.Pattern;

/** The public face as the document has it, and rules of LANGUAGE.md that can be seen from the file. */
public final class FaceTest {
    private static final String SOURCE = "src/main/java/ChaseCourt.java";
    private static final String DOCUMENT = "../shared/DOC.md";

    public static void main(String[] args) throws Exception {
        members();
        document();
        classes();
        words();
        Check.close();
    }

    private static void members() {
        Class<?> c = ChaseCourt.class;
        Check.same("final and public", Modifier.isFinal(c.getModifiers()) && Modifier.isPublic(c.getModifiers()), true);
        for (Constructor<?> k : c.getDeclaredConstructors()) {
            Check.same("the constructor", k.getParameterCount() + " " + Modifier.isPublic(k.getModifiers()), "0 true");
        }
        Set<String> open = new TreeSet<>();
        for (Method m : c.getDeclaredMethods()) {
            if (Modifier.isPublic(m.getModifiers())) {
                open.add(m.getName());
            } else {
                Check.same("private " + m.getName(), Modifier.isPrivate(m.getModifiers()), true);
            }
        }
        for (Method m : c.getDeclaredMethods()) {
            if (Modifier.isPrivate(m.getModifiers())) {
                Check.same("no public name: " + m.getName(), open.contains(m.getName()), false);
            }
        }
        for (Class<?> inner : c.getDeclaredClasses()) {
            for (Method m : inner.getDeclaredMethods()) {
                Check.same("no public name: " + m.getName(), open.contains(m.getName()), false);
                Check.same("parameters of " + m.getName(), m.getParameterCount() <= 7, true);
            }
        }
        for (Field f : c.getDeclaredFields()) {
            boolean fine = Modifier.isPrivate(f.getModifiers()) || f.getName().equals("NONE");
            Check.same("field " + f.getName(), fine, true);
        }
    }

    /** The methods that the document writes out, with their exceptions. */
    private static void document() throws Exception {
        String text = Files.readString(Path.of(DOCUMENT));
        Matcher m = Pattern.compile("    public (int|long|boolean|void) (\\w+)\\(([^)]*)\\)(?: throws ([^;]*))?;").matcher(text);
        Set<String> due = new TreeSet<>();
        while (m.find()) {
            List<String> types = new ArrayList<>();
            for (String p : m.group(3).isEmpty() ? new String[0] : m.group(3).split(", ")) {
                types.add(p.split(" ")[0]);
            }
            due.add(m.group(1) + " " + m.group(2) + types + (m.group(4) == null ? "" : m.group(4)));
        }
        Set<String> got = new TreeSet<>();
        for (Method k : ChaseCourt.class.getDeclaredMethods()) {
            if (Modifier.isPublic(k.getModifiers())) {
                List<String> types = new ArrayList<>();
                for (Class<?> t : k.getParameterTypes()) {
                    types.add(t.getSimpleName());
                }
                List<String> thrown = new ArrayList<>();
                for (Class<?> t : k.getExceptionTypes()) {
                    thrown.add(t.getSimpleName());
                }
                got.add(k.getReturnType().getSimpleName() + " " + k.getName() + types + String.join(", ", thrown));
            }
        }
        Check.same("the face", got, due);
        Check.same("methods", got.size(), 27);
    }

    private static void classes() {
        Class<?>[] inner = ChaseCourt.class.getDeclaredClasses();
        Check.same("at most twelve classes", inner.length + 1 <= 12, true);
        for (Class<?> c : inner) {
            Check.same("static " + c.getSimpleName(), Modifier.isStatic(c.getModifiers()), true);
            long fields = Arrays.stream(c.getDeclaredFields()).filter(f -> !Modifier.isStatic(f.getModifiers())).count();
            Check.same("fields of " + c.getSimpleName(), fields <= 20, true);
            for (Field f : c.getDeclaredFields()) {
                if (Modifier.isStatic(f.getModifiers())) {
                    boolean fine = Modifier.isFinal(f.getModifiers()) && f.getType() == int.class;
                    Check.same("constant " + f.getName(), fine, true);
                }
            }
        }
    }

    private static void words() throws Exception {
        String source = Files.readString(Path.of(SOURCE)).replaceAll("(?s)/\\*.*?\\*/", "").replaceAll("//[^\n]*", "");
        String[] forbidden = {"->", "::", "\\btry\\b", "\\bcatch\\b", "\\bfinally\\b", "\\bassert\\b", "\\bsynchronized\\b",
            "\\bpackage\\b", "\\bprotected\\b", "\\w+Exact\\b", "\\bSystem\\.(?!arraycopy)", "\\bdouble\\b", "\\bfloat\\b",
            "import (?!java\\.util\\.(Arrays|NoSuchElementException);)", "\\bString\\.", "\\bstatic \\{", "[^\\x00-\\x7f]"};
        for (String word : forbidden) {
            Check.same("in the file: " + word, Pattern.compile(word).matcher(source).find(), false);
        }
        int open = -1;
        String[] lines = source.split("\n");
        for (int i = 0; i < lines.length; i++) {
            if (lines[i].matches("(    |        )(public |private |static )*[\\w\\[\\]]+ \\w+\\(.*\\{")) {
                open = i;
            } else if (lines[i].matches("(    |        )\\}") && open >= 0) {
                Check.same("a short method at line " + open, i - open <= 60, true);
                open = -1;
            }
        }
    }
}
