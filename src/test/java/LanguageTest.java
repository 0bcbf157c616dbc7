import java.lang.reflect.Executable;
import java.lang.reflect.Field;
import java.lang.reflect.Method;
import java.lang.reflect.Modifier;
import java.nio.file.Files;
import java.nio.file.Path;
import java.util.ArrayList;
import java.util.Arrays;
import java.util.List;
import java.util.Set;
import java.util.regex.Matcher;
import java.util.regex.Pattern;
import java.util.stream.Collectors;

/** The program keeps to what can be seen of LANGUAGE.md's rules from outside and in its file. */
public final class LanguageTest {
    private static final Set<Class<?>> NUMBERS = Set.of(int.class, long.class, short.class, byte.class, char.class,
            boolean.class, double.class, float.class);
    private static final Set<Class<?>> CONSTANTS = Set.of(int.class, long.class, boolean.class, char.class,
            String.class, int[].class, long[].class, char[].class, byte[].class);
    private static final String[] FORBIDDEN = {
        "\\bthrow\\b", "\\bthrows\\b", "\\btry\\b", "\\bcatch\\b", "\\bsynchronized\\b", "\\bassert\\b", "->", "::",
        "\\bimport\\b", "\\bpackage\\b", "\\bprotected\\b", "\\w+Exact\\b", "\\bSystem\\.(?!arraycopy)",
        "\\.toString\\(", "\\.hashCode\\(", "\\.equals\\(", "static \\{", "\\bvolatile\\b", "\\bnative\\b",
        "\\bjava\\.", "\" \\+", "\\+ \"", "\\bstrictfp\\b", "\\bvar\\b", "\\bthis\\(", "\\bfor \\(;;\\)",
        "\\bwhile \\(true\\)"};
    /** All that the program takes from the library, of which LANGUAGE.md allows more. */
    private static final Set<String> LIBRARY = Set.of("Math.max", "Math.min", "Math.floorMod", "SIGNS.indexOf");

    private LanguageTest() {
    }

    public static void main(String[] args) throws Exception {
        Due.in("language");
        List<Class<?>> all = new ArrayList<>(List.of(RuleBroadcast.class));
        all.addAll(Arrays.asList(RuleBroadcast.class.getDeclaredClasses()));
        Set<String> face = Arrays.stream(RuleBroadcast.class.getDeclaredMethods())
                .filter(m -> Modifier.isPublic(m.getModifiers())).map(Method::getName).collect(Collectors.toSet());
        Due.isTrue("some twelve classes at most", all.size() <= 12);
        for (Class<?> c : all) {
            fields(c);
            methods(c, face);
        }
        source();
        Due.end();
    }

    private static void fields(Class<?> c) {
        int own = 0;
        for (Field f : c.getDeclaredFields()) {
            boolean isStatic = Modifier.isStatic(f.getModifiers());
            own += isStatic ? 0 : 1;
            Due.isTrue(f + " is final if it is static", !isStatic || Modifier.isFinal(f.getModifiers()));
            Due.isTrue(f + " is of a type that is allowed",
                    isStatic ? CONSTANTS.contains(f.getType()) : isAllowed(f.getType()));
        }
        Due.isTrue(c + " has some twenty fields at most", own <= 20);
    }

    private static void methods(Class<?> c, Set<String> face) {
        for (Method m : c.getDeclaredMethods()) {
            Due.isTrue(m + " bears no name of the face", c == RuleBroadcast.class || !face.contains(m.getName()));
            Due.isTrue(m + " answers what is allowed", m.getReturnType() == void.class || isAllowed(m.getReturnType()));
            parameters(m);
        }
        for (Executable made : c.getDeclaredConstructors()) {
            parameters(made);
        }
    }

    private static void parameters(Executable m) {
        Due.isTrue(m + " takes seven parameters at most", m.getParameterCount() <= 7);
        for (Class<?> p : m.getParameterTypes()) {
            Due.isTrue(m + " takes what is allowed", isAllowed(p));
        }
    }

    private static boolean isAllowed(Class<?> type) {
        Class<?> part = type.isArray() ? type.getComponentType() : type;
        return NUMBERS.contains(part) || part.getEnclosingClass() == RuleBroadcast.class || type == String.class;
    }

    private static void source() throws Exception {
        String code = Files.readString(Path.of("src/main/java/RuleBroadcast.java"))
                .replaceAll("(?s)/\\*.*?\\*/", "").replaceAll("//[^\n]*", "");
        for (String pattern : FORBIDDEN) {
            Matcher m = Pattern.compile(pattern).matcher(code);
            Due.isTrue("the file is without " + pattern, !m.find());
        }
        Matcher library = Pattern.compile("\\b[A-Z]\\w*\\.[a-z]\\w*(?=\\()").matcher(code);
        while (library.find()) {
            Due.isTrue(library.group() + " is among what the program takes", LIBRARY.contains(library.group()));
        }
        shortMethods(code.split("\n"));
    }

    private static void shortMethods(String[] lines) {
        String closing = "";
        int start = 0;
        for (int i = 0; i < lines.length; i++) {
            if (lines[i].matches("( {4}| {8})\\S.*\\) \\{")) {
                closing = lines[i].replaceAll("\\S.*", "") + "}";
                start = i;
            } else if (lines[i].equals(closing)) {
                Due.isTrue("some sixty lines at most: " + lines[start].strip(), i - start < 60);
            }
        }
    }
}
