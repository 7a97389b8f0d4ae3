import java.io.IOException;
import java.lang.reflect.InvocationTargetException;
import java.lang.reflect.Method;
import java.nio.file.Files;
import java.nio.file.Path;
import java.util.ArrayList;
import java.util.List;
import java.util.Set;
import java.util.TreeSet;
import java.util.regex.Matcher;
import java.util.regex.Pattern;

/** Makes the calls that README.md shows, in its order, and holds their answers against those that it shows. */
public final class ReadmeTest {
    private static final Pattern NEW_COURT = Pattern.compile("(AppealCourt )?court = new AppealCourt\\(\\);");
    private static final Pattern ANSWER = Pattern.compile("\\s+// (-?\\d+|true|false)(: .*)?");
    private static final Pattern CALL = Pattern.compile("court\\.(\\w+)\\(([-\\w, ]*)\\);" + ANSWER);
    private static final Pattern FEED = Pattern.compile("feed\\(court, \"([^\"]*)\"\\);" + ANSWER);

    private static final Set<String> called = new TreeSet<>();
    private static AppealCourt court;

    public static void main(String[] args) throws IOException, ReflectiveOperationException {
        List<String> lines = Files.readAllLines(Path.of("README.md"));
        for (List<String> block : javaBlocks(lines)) {
            if (block.get(0).startsWith("static ")) {
                sameAsHere(block);
            } else {
                makeCalls(block);
            }
        }
        for (Method m : AppealCourt.class.getDeclaredMethods()) {
            boolean isPublic = java.lang.reflect.Modifier.isPublic(m.getModifiers());
            Checks.due("README.md calls " + m.getName(), called.contains(m.getName()), isPublic);
        }
        howToRunTests(String.join("\n", lines));
        Checks.finish();
    }

    private static List<List<String>> javaBlocks(List<String> lines) {
        List<List<String>> blocks = new ArrayList<>();
        List<String> open = null;
        for (String line : lines) {
            if (line.equals("```java")) {
                open = new ArrayList<>();
                blocks.add(open);
            } else if (line.startsWith("```")) {
                open = null;
            } else if (open != null && !line.isBlank()) {
                open.add(line);
            }
        }
        return blocks;
    }

    private static void makeCalls(List<String> block) throws ReflectiveOperationException {
        for (String line : block) {
            Matcher call = CALL.matcher(line);
            Matcher feed = FEED.matcher(line);
            if (NEW_COURT.matcher(line).matches()) {
                court = new AppealCourt();
            } else if (feed.matches()) {
                Checks.due(line, feed(court, feed.group(1)), number(feed.group(2)));
            } else if (call.matches()) {
                called.add(call.group(1));
                Checks.due(line, answer(call.group(1), call.group(2)), number(call.group(3)));
            } else {
                Checks.due("understood: " + line, false, true);
            }
        }
    }

    private static int answer(String name, String arguments) throws ReflectiveOperationException {
        String[] parts = arguments.split(", ");
        Object[] values = new Object[parts.length];
        Class<?>[] types = new Class<?>[parts.length];
        for (int i = 0; i < parts.length; i++) {
            values[i] = Long.decode(parts[i]).intValue();
            types[i] = int.class;
        }
        try {
            Object found = AppealCourt.class.getMethod(name, types).invoke(court, values);
            return number(found.toString());
        } catch (InvocationTargetException e) {
            throw new IllegalStateException(name + "(" + arguments + ") threw", e.getCause());
        }
    }

    private static int number(String answer) {
        return answer.equals("true") ? 1 : answer.equals("false") ? 0 : Integer.parseInt(answer);
    }

    /** What README.md offers for a whole text is the code below, which the calls here go through. */
    private static void sameAsHere(List<String> block) throws IOException {
        String here = withoutBlanks(Files.readString(Path.of("src/test/java/ReadmeTest.java")));
        Checks.due("the code of README.md: " + block, here.contains(withoutBlanks(String.join("\n", block))), true);
    }

    private static String withoutBlanks(String code) {
        return code.replaceAll("\\s", "");
    }

    private static void howToRunTests(String readme) throws IOException {
        Checks.due("README.md tells of .ci/run", readme.contains("\n.ci/run\n"), true);
        Checks.due(".ci/run can be run", Files.isExecutable(Path.of(".ci/run")), true);
        Matcher tests = Pattern.compile("`(\\w+Test)`").matcher(readme);
        while (tests.find()) {
            Checks.due(tests.group(1) + " is there", Files.exists(Path.of("src/test/java/" + tests.group(1) + ".java")), true);
        }
        Matcher files = Pattern.compile("\\b(src/\\w+/java/\\w+\\.java)").matcher(readme);
        while (files.find()) {
            Checks.due(files.group(1) + " is there", Files.exists(Path.of(files.group(1))), true);
        }
    }

    static int feed(AppealCourt court, String text) {
        int fed = 0;
        for (int i = 0; i < text.length(); i += 20) {
            fed = court.feed(four(text, i), four(text, i + 4), four(text, i + 8), four(text, i + 12), four(text, i + 16));
        }
        return fed;
    }

    static int four(String text, int from) {
        int four = 0;
        for (int i = from; i < from + 4; i++) {
            four = four << 8 | (i < text.length() ? text.charAt(i) : ' ');
        }
        return four;
    }
}
