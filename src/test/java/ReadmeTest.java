import java.io.IOException;
import java.lang.reflect.Method;
import java.lang.reflect.Modifier;
import java.nio.file.Files;
import java.nio.file.Path;
import java.util.ArrayList;
import java.util.List;
import java.util.Set;
import java.util.TreeSet;
import java.util.regex.Matcher;
import java.util.regex.Pattern;
import java.util.stream.Stream;

/** What README.md says holds for the class as it stands. */
public final class ReadmeTest {
    private static final int NONE = TypeFlow.NONE, BAD = TypeFlow.BAD, FULL = TypeFlow.FULL;
    private static final Path TESTS = Path.of("src/test/java");

    private static int wrong = 0;

    private static void need(boolean holds, String what) {
        if (!holds) {
            wrong++;
            System.out.println(what);
        }
    }

    private static void due(String call, int got, int want) {
        need(got == want, call + " answered " + got + ", due is " + want);
    }

    /** The lines of README.md's example, each of which theExampleIsRun() looks for in this file. */
    private static void example() {
        TypeFlow x = new TypeFlow();
        int box = x.classOf(1, 6);
        int item = x.type(x.classOf(0, 6), 0, 0);
        int boxOfItem = x.type(box, item, 0);
        int boxOfVariable = x.type(box, 4, 0);
        int unbox = x.function(boxOfVariable, TypeFlow.NONE, 4);
        int rows = x.operator(0, 0, 0, boxOfItem, 0, 0);
        int items = x.operator(1, rows, 0, unbox, 0, 0);
        int twice = x.operator(1, items, 0, unbox, 0, 0);
        int both = x.operator(4, rows, items, 0, 0, 0);
        int back = x.operator(7, both, 0, item, 0, 0);
        int[] got = {
            x.flow(),
            x.comes(items),
            x.boundTo(items, 0),
            x.comes(twice),
            x.reason(twice),
            x.comes(both),
            x.mayFail(back),
            x.cast(0),
        };
        int[] want = {4, item, item, NONE, 1, 6, 1, back};
        for (int i = 0; i < want.length; i++) {
            due("the example, answer " + i, got[i], want[i]);
        }
    }

    private static void theExampleIsRun(String readme) throws IOException {
        String own = Files.readString(TESTS.resolve("ReadmeTest.java"));
        Matcher block = Pattern.compile("(?s)```java\n(.*?)```").matcher(readme);
        need(block.find(), "there is no example");
        int from = own.indexOf("private static void example()");
        for (String line : block.group(1).split("\n")) {
            String code = line.replaceAll("//.*", "").strip();
            // An answer that is only told stands as an element of a row here.
            String here = code.startsWith("x.") ? code.replace(";", ",") : code;
            int at = own.indexOf("    " + here + "\n", from);
            need(at >= from, "this line of the example is not run: " + line);
            from = Math.max(from, at);
        }
    }

    private static int parameters(String list) {
        return list.isEmpty() ? 0 : list.split(", ").length;
    }

    private static void eachCallIsTold(String readme) {
        List<String> told = new ArrayList<>();
        Matcher row = Pattern.compile("(?m)^\\| `(\\w+)\\(([\\w, ]*)\\)` \\|").matcher(readme);
        while (row.find()) {
            told.add(row.group(1) + "/" + parameters(row.group(2)));
        }
        Set<String> face = new TreeSet<>();
        for (Method method : TypeFlow.class.getDeclaredMethods()) {
            if (Modifier.isPublic(method.getModifiers())) {
                face.add(method.getName() + "/" + method.getParameterCount());
            }
        }
        need(face.equals(new TreeSet<>(told)) && told.size() == face.size(),
                "told are the calls " + told + ", there are " + face);
    }

    private static void eachTestIsTold(String readme) throws IOException {
        Set<String> told = new TreeSet<>();
        Matcher row = Pattern.compile("`src/test/java/(\\w+\\.java)`").matcher(readme);
        while (row.find()) {
            told.add(row.group(1));
        }
        Set<String> there = new TreeSet<>();
        try (Stream<Path> files = Files.list(TESTS)) {
            files.forEach(file -> there.add(file.getFileName().toString()));
        }
        need(told.equals(there), "told are the tests " + told + ", there are " + there);
    }

    private static void constants(String readme) {
        need(readme.contains("`NONE` (" + NONE + ")"), "NONE is " + NONE);
        need(readme.contains("`BAD` (" + BAD + ")"), "BAD is " + BAD);
        need(readme.contains("`FULL` (" + FULL + ")"), "FULL is " + FULL);
    }

    private static void room(String readme) {
        String flat = readme.replaceAll("\\s+", " ");
        need(flat.contains("12 CLASSES, 80 TYPES, 24 MEMBERS, 16 FUNCTIONS and 24 OPERATORS"),
                "how much room there is, is not told");
        TypeFlow x = new TypeFlow();
        int[] most = {12, 80, 24, 16, 24};
        for (int i = 0; i <= most[1]; i++) {
            due("a CLASS", x.classOf(1, 6), i + 1 < most[0] ? i + 1 : FULL);
            due("a TYPE", x.type(1, Math.min(i + 6, 79), 0), i + 7 < most[1] ? i + 7 : FULL);
            due("a MEMBER", x.member(0, 0), i < most[2] ? i : FULL);
            due("a FUNCTION", x.function(0, NONE, 0), i < most[3] ? i : FULL);
            due("an OPERATOR", x.operator(0, 0, 0, 0, 0, 0), i < most[4] ? i : FULL);
        }
        for (int what = 0; what < most.length; what++) {
            due("count " + what, x.count(what), most[what]);
        }
    }

    public static void main(String[] args) throws IOException {
        String readme = Files.readString(Path.of("README.md"));
        example();
        theExampleIsRun(readme);
        eachCallIsTold(readme);
        eachTestIsTold(readme);
        constants(readme);
        room(readme);
        System.out.println(wrong == 0 ? "README.md holds" : wrong + " faults in README.md");
        if (wrong != 0) {
            System.exit(1);
        }
    }
}
