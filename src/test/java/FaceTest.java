import java.lang.reflect.Constructor;
import java.lang.reflect.Field;
import java.lang.reflect.Method;
import java.lang.reflect.Modifier;
import java.nio.file.Files;
import java.nio.file.Path;
import java.util.Arrays;
import java.util.Set;
import java.util.TreeSet;
import java.util.regex.Matcher;
import java.util.regex.Pattern;

/** The class has the document's face and no more, and its file keeps to what can be seen of LANGUAGE.md. */
public final class FaceTest {
    private static final String[] METHODS = {
        "int feed(int,int,int,int,int)", "int keep(int)", "int rule(long)", "int fault()", "int drop(int,long)",
        "int alike(boolean)", "int asOf(boolean)", "int tasks(int)", "int row(int,long,long,long)",
        "int goes(int,long,long,long)", "int send(int,long,long,long)", "int apply(int,int)", "long out(int,int)",
        "int from(int,int)", "int at(long)", "int rules(int,int,int)", "int off(int,int)", "int change(int,int)",
        "long when(int)", "int failed(int,int)", "int tries(int,long,long,long)", "int mark()", "int restore(int)",
        "int same(int,int)", "int count(int)", "int clear()"};
    private static final String[] FORBIDDEN = {
        "\\bthrow\\b", "\\bthrows\\b", "\\btry\\b", "\\bcatch\\b", "\\bsynchronized\\b", "\\bassert\\b", "->", "::",
        "\\bimport\\b", "\\bpackage\\b", "\\bprotected\\b", "\\w+Exact\\b", "\\bSystem\\.(?!arraycopy)",
        "\\.toString\\(", "\\.hashCode\\(", "static \\{", "\\bgoto\\b", "\\bvolatile\\b", "\\bnative\\b"};

    private FaceTest() {
    }

    public static void main(String[] args) throws Exception {
        Due.in("face");
        methods();
        constants();
        Due.isTrue("the class is public and final",
                Modifier.isPublic(RuleBroadcast.class.getModifiers())
                        && Modifier.isFinal(RuleBroadcast.class.getModifiers()));
        Constructor<?>[] constructors = RuleBroadcast.class.getDeclaredConstructors();
        Due.isTrue("one public constructor without parameters", constructors.length == 1
                && Modifier.isPublic(constructors[0].getModifiers()) && constructors[0].getParameterCount() == 0);
        inside();
        source();
        Due.end();
    }

    private static void methods() {
        Set<String> seen = new TreeSet<>();
        Set<String> names = new TreeSet<>();
        for (Method m : RuleBroadcast.class.getDeclaredMethods()) {
            if (Modifier.isPublic(m.getModifiers())) {
                names.add(m.getName());
                StringBuilder face = new StringBuilder(m.getReturnType() + " " + m.getName() + "(");
                for (Class<?> p : m.getParameterTypes()) {
                    face.append(face.charAt(face.length() - 1) == '(' ? "" : ",").append(p);
                }
                seen.add(face + ")");
            }
        }
        Due.isTrue("the public methods are the document's: " + seen,
                seen.equals(new TreeSet<>(Arrays.asList(METHODS))));
        for (Method m : RuleBroadcast.class.getDeclaredMethods()) {
            Due.isTrue(m + " is public or private", Modifier.isPublic(m.getModifiers())
                    || Modifier.isPrivate(m.getModifiers()) && !names.contains(m.getName()));
        }
    }

    private static void constants() {
        Due.is("BAD", RuleBroadcast.BAD, -1);
        Due.is("FULL", RuleBroadcast.FULL, -2);
        Due.is("WAITS", RuleBroadcast.WAITS, -4);
        Due.is("NONE", RuleBroadcast.NONE, -5);
        Set<String> seen = new TreeSet<>();
        for (Field f : RuleBroadcast.class.getDeclaredFields()) {
            if (!Modifier.isPrivate(f.getModifiers())) {
                seen.add(f.getName());
            }
        }
        Due.isTrue("the public fields are the four constants: " + seen,
                seen.equals(new TreeSet<>(Arrays.asList("BAD", "FULL", "WAITS", "NONE"))));
    }

    private static void inside() {
        for (Class<?> c : RuleBroadcast.class.getDeclaredClasses()) {
            Due.isTrue(c + " is static, and not public", Modifier.isStatic(c.getModifiers())
                    && !Modifier.isPublic(c.getModifiers()));
            Due.isTrue(c + " has some twenty fields at most", Arrays.stream(c.getDeclaredFields())
                    .filter(f -> !Modifier.isStatic(f.getModifiers())).count() <= 20);
            for (Method m : c.getDeclaredMethods()) {
                Due.isTrue(m + " bears no name of the face", Arrays.stream(METHODS)
                        .noneMatch(face -> face.contains(" " + m.getName() + "(")));
            }
            for (Field f : c.getDeclaredFields()) {
                Due.isTrue(f + " is final if it is static",
                        !Modifier.isStatic(f.getModifiers()) || Modifier.isFinal(f.getModifiers()));
            }
        }
        Due.isTrue("some twelve classes at most", RuleBroadcast.class.getDeclaredClasses().length < 12);
    }

    private static void source() throws Exception {
        String code = Files.readString(Path.of("src/main/java/RuleBroadcast.java"))
                .replaceAll("(?s)/\\*.*?\\*/", "").replaceAll("//[^\n]*", "");
        for (String pattern : FORBIDDEN) {
            Matcher m = Pattern.compile(pattern).matcher(code);
            Due.isTrue("the file is without " + pattern, !m.find());
        }
    }
}
