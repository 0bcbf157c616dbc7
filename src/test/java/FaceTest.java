import java.lang.reflect.Constructor;
import java.lang.reflect.Field;
import java.lang.reflect.Member;
import java.lang.reflect.Method;
import java.lang.reflect.Modifier;
import java.nio.file.Files;
import java.nio.file.Path;
import java.util.Arrays;
import java.util.Collection;
import java.util.List;
import java.util.Map;
import java.util.Set;
import java.util.TreeMap;
import java.util.TreeSet;
import java.util.regex.Matcher;
import java.util.regex.Pattern;
import java.util.stream.Collectors;

/** The class has the face that the document has: no member more and none less. */
public final class FaceTest {
    private static final Pattern FACE = Pattern.compile("(?s)## The public face\\s+```java\n(.*?)```");
    private static final Pattern METHOD = Pattern.compile("public (\\w+) (\\w+)\\(([^)]*)\\)");

    private FaceTest() {
    }

    public static void main(String[] args) throws Exception {
        Due.in("face");
        Matcher face = FACE.matcher(Files.readString(Path.of("../shared/DOC.md")));
        Due.isTrue("the document has a face", face.find());
        List<String> written = face.group(1).lines().map(String::strip)
                .filter(line -> line.startsWith("public ")).collect(Collectors.toList());
        Due.is("lines of the document's face", written.size(), 1 + 1 + 1 + 26);
        String source = Files.readString(Path.of("src/main/java/RuleBroadcast.java"));
        asWritten(written, source);
        noneElseWritten(written, source);
        compiledMethods(written);
        compiledConstants(written);
        compiledRest();
        Due.end();
    }

    /** With the names of the parameters, as the document has them. */
    private static void asWritten(List<String> written, String source) {
        for (String line : written) {
            String ours = line.endsWith(");") ? line.substring(0, line.length() - 1) + " {" : line;
            long times = source.lines().filter(it -> it.strip().equals(ours)).count();
            Due.is("how often the file has " + line, times, 1);
        }
    }

    private static void noneElseWritten(List<String> written, String source) {
        Matcher word = Pattern.compile("\\b(public|protected)\\b").matcher(source);
        long found = word.results().count();
        Due.is("how often the file has public or protected", found, written.size());
    }

    private static void compiledMethods(List<String> written) {
        Set<String> due = new TreeSet<>();
        for (String line : written) {
            Matcher method = METHOD.matcher(line);
            if (method.find()) {
                String types = method.group(3).replaceAll(" \\w+(,|$)", "$1").replace(" ", "");
                due.add(method.group(1) + " " + method.group(2) + "(" + types + ")");
            }
        }
        Due.is("methods of the document's face", due.size(), 26);
        Set<String> seen = new TreeSet<>();
        Set<String> hidden = new TreeSet<>();
        for (Method m : RuleBroadcast.class.getDeclaredMethods()) {
            if (Modifier.isPrivate(m.getModifiers())) {
                hidden.add(m.getName());
                continue;
            }
            Due.is(m + ": public and nothing else", m.getModifiers(), Modifier.PUBLIC);
            Due.is(m + ": exceptions that it declares", m.getExceptionTypes().length, 0);
            seen.add(m.getReturnType() + " " + m.getName() + "("
                    + Arrays.stream(m.getParameterTypes()).map(Class::toString).collect(Collectors.joining(",")) + ")");
        }
        alike("methods", seen, due);
        for (String face : due) {
            String name = face.substring(face.indexOf(' ') + 1, face.indexOf('('));
            Due.isTrue("no private method bears the name " + name, !hidden.contains(name));
        }
    }

    private static void compiledConstants(List<String> written) throws Exception {
        Map<String, Integer> due = new TreeMap<>();
        Matcher constant = Pattern.compile("(\\w+) = (-?\\d+)").matcher(String.join("\n", written));
        while (constant.find()) {
            due.put(constant.group(1), Integer.valueOf(constant.group(2)));
        }
        Due.is("constants of the document's face", due.size(), 4);
        Map<String, Integer> seen = new TreeMap<>();
        for (Field f : RuleBroadcast.class.getDeclaredFields()) {
            if (!Modifier.isPrivate(f.getModifiers())) {
                Due.is(f + ": public static final and nothing else", f.getModifiers(),
                        Modifier.PUBLIC | Modifier.STATIC | Modifier.FINAL);
                Due.isTrue(f + " is an int", f.getType() == int.class);
                seen.put(f.getName(), f.getInt(null));
            }
        }
        alike("constants", seen.entrySet(), due.entrySet());
    }

    private static void compiledRest() {
        Class<?> it = RuleBroadcast.class;
        Due.is("the class: public and final, and nothing else", it.getModifiers(), Modifier.PUBLIC | Modifier.FINAL);
        Due.isTrue("the class has no package", it.getPackageName().isEmpty());
        Due.isTrue("the class extends none", it.getSuperclass() == Object.class);
        Due.is("interfaces of the class", it.getInterfaces().length, 0);
        Constructor<?>[] made = it.getDeclaredConstructors();
        Due.is("constructors", made.length, 1);
        Due.is("the constructor: public and nothing else", made[0].getModifiers(), Modifier.PUBLIC);
        Due.is("parameters of the constructor", made[0].getParameterCount(), 0);
        for (Class<?> inside : it.getDeclaredClasses()) {
            Due.isTrue(inside + " is static, and neither public nor protected",
                    Modifier.isStatic(inside.getModifiers())
                            && (inside.getModifiers() & (Modifier.PUBLIC | Modifier.PROTECTED)) == 0);
            onlyInside(inside.getDeclaredMethods());
            onlyInside(inside.getDeclaredFields());
            onlyInside(inside.getDeclaredConstructors());
        }
    }

    private static void onlyInside(Member[] members) {
        for (Member m : members) {
            Due.isTrue(m + " is neither public nor protected",
                    (m.getModifiers() & (Modifier.PUBLIC | Modifier.PROTECTED)) == 0);
        }
    }

    private static void alike(String what, Collection<?> seen, Collection<?> due) {
        Due.isTrue("the public " + what + " are " + due + ", not " + seen, List.copyOf(seen).equals(List.copyOf(due)));
    }
}
