import java.io.IOException;
import java.lang.reflect.Field;
import java.lang.reflect.Method;
import java.lang.reflect.Modifier;
import java.nio.file.Files;
import java.nio.file.Path;
import java.util.Set;
import java.util.TreeSet;

/** The public face of the document, and the rules of LANGUAGE.md that can be read off the text. */
public final class RulesTest {
    private static int wrong = 0;

    private static void need(boolean holds, String what) {
        if (!holds) {
            wrong++;
            System.out.println(what);
        }
    }

    private static final String[] FACE = {"about(2)", "bound(3)", "boundTo(2)", "cast(1)",
        "classOf(2)", "clear(0)", "comes(1)", "common(2)", "count(1)", "flow(0)", "function(3)",
        "goes(2)", "mayFail(1)", "member(2)", "operator(6)", "reason(1)", "seen(2)", "type(3)"};

    private static void face() {
        Set<String> open = new TreeSet<>();
        Set<String> publicNames = new TreeSet<>();
        for (Method method : TypeFlow.class.getDeclaredMethods()) {
            if (Modifier.isPublic(method.getModifiers())) {
                open.add(method.getName() + "(" + method.getParameterCount() + ")");
                publicNames.add(method.getName());
                need(method.getReturnType() == int.class, method + " does not answer an int");
            }
        }
        need(open.equals(new TreeSet<>(Set.of(FACE))), "the public methods are " + open);
        for (Method method : TypeFlow.class.getDeclaredMethods()) {
            boolean isPublic = Modifier.isPublic(method.getModifiers());
            need(isPublic || Modifier.isPrivate(method.getModifiers()), method + " is open");
            need(isPublic || !publicNames.contains(method.getName()), method + " has a taken name");
        }
        for (Field field : TypeFlow.class.getDeclaredFields()) {
            boolean told = Set.of("NONE", "BAD", "FULL").contains(field.getName());
            need(told == Modifier.isPublic(field.getModifiers()), field + " is not as told");
            need(told || Modifier.isPrivate(field.getModifiers()), field + " is open");
        }
        need(Modifier.isFinal(TypeFlow.class.getModifiers()), "the class is not final");
        need(TypeFlow.class.getDeclaredConstructors().length == 1, "there are other constructors");
    }

    private static void insides() {
        Class<?>[] insides = TypeFlow.class.getDeclaredClasses();
        need(insides.length <= 11, "there are too many classes");
        for (Class<?> inside : insides) {
            need(Modifier.isStatic(inside.getModifiers()), inside + " is not static");
            for (Field field : inside.getDeclaredFields()) {
                int modifiers = field.getModifiers();
                boolean loose = Modifier.isStatic(modifiers) && !Modifier.isFinal(modifiers);
                need(!loose, field + " is static, but not final");
            }
            need(inside.getDeclaredFields().length <= 20, inside + " has too many fields");
            for (Method method : inside.getDeclaredMethods()) {
                need(method.getParameterCount() <= 7, method + " has too many parameters");
                for (String taken : FACE) {
                    need(!taken.startsWith(method.getName() + "("), method + " has a taken name");
                }
            }
        }
    }

    private static void words() throws IOException {
        String text = Files.readString(Path.of("src/main/java/TypeFlow.java"))
                .replaceAll("(?s)/\\*.*?\\*/", " ").replaceAll("//[^\n]*", " ");
        for (String word : new String[] {"throw", "throws", "try", "catch", "finally", "assert",
            "synchronized", "package", "double", "float", "System", "protected", "Object"}) {
            need(!text.matches("(?s).*\\b" + word + "\\b.*"), "the word '" + word + "' stands there");
        }
        need(!text.contains("->") && !text.contains("::"), "there is a lambda");
        for (String line : text.split("\n")) {
            need(!line.startsWith("import") || line.equals("import java.util.Arrays;"), line);
            need(line.length() <= 110, "a line is too long: " + line);
        }
    }

    public static void main(String[] args) throws IOException {
        face();
        insides();
        words();
        System.out.println(wrong == 0 ? "the rules are kept" : wrong + " rules are not kept");
        if (wrong != 0) {
            System.exit(1);
        }
    }
}
