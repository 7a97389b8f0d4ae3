import java.io.IOException;
import java.lang.management.ManagementFactory;
import java.lang.reflect.Constructor;
import java.lang.reflect.Field;
import java.lang.reflect.Method;
import java.lang.reflect.Modifier;
import java.nio.file.Files;
import java.nio.file.Path;
import java.util.Arrays;
import java.util.List;
import java.util.Set;
import java.util.TreeSet;
import java.util.regex.Matcher;
import java.util.regex.Pattern;

/** The document's face, and those rules of LANGUAGE.md that can be seen from outside. */
public final class LanguageTest {
    private static final List<String> METHODS = List.of("about(int)", "chain(int,int)", "complain(int,int,int)", "complaint(int,int,int)", "fault(int)",
            "feed(int,int,int,int,int)", "note(int)", "policy(int,int,int,int)", "read(int)", "trial(int,int,int,int)");

    public static void main(String[] args) throws IOException {
        face();
        source();
        room();
        Checks.finish();
    }

    private static void face() {
        Class<?> court = AppealCourt.class;
        Checks.due("public and final", court.getModifiers(), Modifier.PUBLIC | Modifier.FINAL);
        Set<String> names = new TreeSet<>();
        for (Method m : court.getDeclaredMethods()) {
            if (Modifier.isPrivate(m.getModifiers())) {
                Checks.due("a private method named " + m.getName(), METHODS.stream().anyMatch(x -> x.startsWith(m.getName() + "(")), false);
                continue;
            }
            Checks.due(m + " is public", Modifier.isPublic(m.getModifiers()), true);
            Checks.due(m + " answers", m.getReturnType() == (m.getName().equals("policy") ? boolean.class : int.class), true);
            String parameters = Arrays.toString(m.getParameterTypes()).replaceAll("[\\[\\] ]", "");
            names.add(m.getName() + "(" + parameters + ")");
        }
        Checks.due("the methods " + names, names.equals(new TreeSet<>(METHODS)), true);
        for (Field f : court.getDeclaredFields()) {
            Checks.due("field " + f.getName(), Modifier.isPrivate(f.getModifiers()), !f.getName().equals("NONE"));
        }
        Constructor<?>[] constructors = court.getDeclaredConstructors();
        Checks.due("constructors", constructors.length, 1);
        Checks.due("it is public", Modifier.isPublic(constructors[0].getModifiers()), true);
        Checks.due("it takes nothing", constructors[0].getParameterCount(), 0);
        Checks.due("classes inside", court.getDeclaredClasses().length <= 12, true);
        for (Class<?> inside : court.getDeclaredClasses()) {
            Checks.due(inside + " is static", Modifier.isStatic(inside.getModifiers()), true);
            Checks.due(inside + " is not public", Modifier.isPublic(inside.getModifiers()), false);
            for (Method m : inside.getDeclaredMethods()) {
                Checks.due("named as a public one: " + m, METHODS.stream().anyMatch(x -> x.startsWith(m.getName() + "(")), false);
            }
            types(inside);
            sizes(inside);
        }
        types(court);
        sizes(court);
    }

    /** Rules 3 and 5: what fields may hold. */
    private static void types(Class<?> c) {
        Set<Class<?>> numbers = Set.of(int.class, long.class, boolean.class, char.class, byte.class, int[].class, long[].class, byte[].class);
        for (Field f : c.getDeclaredFields()) {
            boolean own = f.getType().getName().startsWith("AppealCourt");
            boolean plain = numbers.contains(f.getType()) || f.getType() == String.class;
            Checks.due("the type of " + f, Modifier.isStatic(f.getModifiers()) ? plain : plain || own, true);
            Checks.due("a static field is final: " + f, !Modifier.isStatic(f.getModifiers()) || Modifier.isFinal(f.getModifiers()), true);
        }
    }

    /** Rule 11, as far as a class tells it. */
    private static void sizes(Class<?> c) {
        long fields = Arrays.stream(c.getDeclaredFields()).filter(f -> !Modifier.isStatic(f.getModifiers())).count();
        Checks.due(c + " has at most twenty fields", fields <= 20, true);
        for (Method m : c.getDeclaredMethods()) {
            Checks.due(m + " takes at most seven", m.getParameterCount() <= 7, true);
        }
    }

    private static void methodLengths(String source) {
        String[] lines = source.split("\n");
        for (int i = 0; i < lines.length; i++) {
            if (!lines[i].matches("( {4}| {8})\\w.*\\) \\{")) {
                continue;
            }
            String indent = lines[i].replaceAll("\\S.*", "");
            int end = i;
            while (end < lines.length && !lines[end].equals(indent + "}")) {
                end++;
            }
            Checks.due("lines of " + lines[i].trim(), end - i < 60, true);
        }
    }

    private static void source() throws IOException {
        String source = Files.readString(Path.of("src/main/java/AppealCourt.java"));
        methodLengths(source);
        String code = source.replaceAll("(?s)/\\*.*?\\*/", " ").replaceAll("//[^\n]*", " ").replaceAll("\"[^\"\n]*\"", "\"\"").replaceAll("'[^'\n]'", "' '");
        for (String word : "throw try catch synchronized assert throws package instanceof enum interface native".split(" ")) {
            Checks.due("the word " + word, Pattern.compile("\\b" + word + "\\b").matcher(code).find(), false);
        }
        for (String sign : List.of("->", "::", "[][]", "double", "float", "System.", "Exact")) {
            Checks.due("the sign " + sign, code.contains(sign), false);
        }
        Matcher imports = Pattern.compile("import ([^;]*);").matcher(code);
        while (imports.find()) {
            Checks.due("import " + imports.group(1), imports.group(1).equals("java.util.Arrays"), true);
        }
        Matcher calls = Pattern.compile("(Arrays|Math)\\.(\\w+)").matcher(code);
        while (calls.find()) {
            Checks.due(calls.group(), List.of("copyOf", "fill", "floorMod").contains(calls.group(2)), true);
        }
        libraryCalls(code);
    }

    /** Rule 4: what is called on something is a method of the file, or one of those few of the library. */
    private static void libraryCalls(String code) {
        Set<String> known = new TreeSet<>(List.of("copyOf", "fill", "floorMod", "length", "charAt", "indexOf"));
        Matcher declared = Pattern.compile("(?m)^ +[\\w ]*\\b(?:void|int|long|boolean|Program) (\\w+)\\([\\w, \\[\\]]*\\) \\{$").matcher(code);
        while (declared.find()) {
            known.add(declared.group(1));
        }
        Matcher calls = Pattern.compile("\\.(\\w+)\\(").matcher(code);
        while (calls.find()) {
            Checks.due("the call of " + calls.group(1), known.contains(calls.group(1)), true);
        }
        Matcher made = Pattern.compile("\\bnew (\\w+)").matcher(code);
        while (made.find()) {
            boolean own = code.contains("class " + made.group(1) + " {");
            Checks.due("new " + made.group(1), own || List.of("int", "long", "byte").contains(made.group(1)), true);
        }
    }

    /** Rule 12: one run's calls share 7.3 million elements and 600,000 objects, so as many bytes are less than that. */
    private static void room() {
        Runnable[] runs = {LanguageTest::manyReads, LanguageTest::longReads, LanguageTest::manyObjections};
        com.sun.management.ThreadMXBean threads = (com.sun.management.ThreadMXBean) ManagementFactory.getThreadMXBean();
        long me = Thread.currentThread().getId();
        for (Runnable run : runs) {
            run.run();
            long before = threads.getThreadAllocatedBytes(me);
            run.run();
            long bytes = threads.getThreadAllocatedBytes(me) - before;
            Checks.due("a run of 512 calls made " + bytes + " bytes", bytes < 7300000, true);
        }
    }

    private static void manyReads() {
        AppealCourt court = new AppealCourt();
        for (int i = 0; i < 512; i++) {
            court.read(0);
        }
    }

    private static void longReads() {
        AppealCourt court = new AppealCourt();
        for (int i = 0; i < 512; i++) {
            int fed = court.feed(0x20202020, 0x20202020, 0x20202020, 0x20202020, 0x20202020);
            if (fed == 4000) {
                court.read(4000);
            }
        }
    }

    private static void manyObjections() {
        AppealCourt court = Checks.court("hearing h() { while 1 { hold X = Any(1); } }");
        for (int i = 0; i < 500; i++) {
            court.trial(0, 0, 0, 5000);
        }
    }
}
