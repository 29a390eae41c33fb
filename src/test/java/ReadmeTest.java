import java.nio.file.Files;
import java.nio.file.Path;
import java.util.ArrayList;
import java.util.List;
import java.util.regex.Matcher;
import java.util.regex.Pattern;

/** The game that README.md shows: each line of it is read from there, called, and answered as it says. */
public final class ReadmeTest {
    private static final Pattern TELL = Pattern.compile("tell\\(x, \"([^\"]*)\"\\);");
    private static final Pattern CALL = Pattern.compile("x\\.(\\w+)\\(([^)]*)\\); +// (?:(throws \\w+)|(-?\\d+)): .+");

    public static void main(String[] args) throws Exception {
        List<String> lines = game(Files.readString(Path.of("README.md")));
        Check.same("the game's first line", lines.get(0), "ChaseCourt x = new ChaseCourt();");
        ChaseCourt x = new ChaseCourt();
        for (String line : lines.subList(1, lines.size())) {
            Matcher tell = TELL.matcher(line);
            Matcher call = CALL.matcher(line);
            if (tell.matches()) {
                Check.put(x, tell.group(1));
            } else if (call.matches()) {
                String due = call.group(3) != null ? call.group(3) : call.group(4);
                Check.same(line, answer(x, call.group(1), call.group(2)), due);
            } else {
                Check.same("a line of README.md", line, "a text that is told, or a call and its answer");
            }
        }
        Check.close();
    }

    private static List<String> game(String readme) {
        String[] blocks = readme.split("```");
        for (String block : blocks) {
            if (block.startsWith("java\nChaseCourt x")) {
                return List.of(block.substring(5).strip().split("\n"));
            }
        }
        throw new IllegalStateException("README.md shows no game");
    }

    private static String answer(ChaseCourt x, String name, String given) throws Exception {
        List<Class<?>> types = new ArrayList<>();
        List<Object> values = new ArrayList<>();
        for (String one : given.isEmpty() ? new String[0] : given.split(", ")) {
            boolean truth = one.equals("true") || one.equals("false");
            types.add(truth ? boolean.class : int.class);
            values.add(truth ? (Object) Boolean.valueOf(one) : (Object) Integer.valueOf(one));
        }
        try {
            return String.valueOf(ChaseCourt.class.getMethod(name, types.toArray(new Class<?>[0])).invoke(x, values.toArray()));
        } catch (java.lang.reflect.InvocationTargetException e) {
            return "throws " + e.getCause().getClass().getSimpleName();
        }
    }
}
