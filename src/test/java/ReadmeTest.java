import java.io.IOException;
import java.lang.reflect.Method;
import java.lang.reflect.Modifier;
import java.net.URL;
import java.net.URLClassLoader;
import java.nio.file.Files;
import java.nio.file.Path;
import java.util.ArrayList;
import java.util.List;
import java.util.Set;
import java.util.TreeSet;
import java.util.regex.Matcher;
import java.util.regex.Pattern;
import java.util.stream.Collectors;
import java.util.stream.Stream;

/** What README.md shows is so: the answers beside its calls, and the way to run the tests. */
public final class ReadmeTest {
    private static final Pattern BLOCK = Pattern.compile("(?ms)^```(\\w+)\n(.*?)^```$");
    private static final Pattern CALL = Pattern.compile("((?:x\\.)?(\\w+)\\(.*\\)); +// (-?\\d+)(?:$|: \\S.*)");
    private static final Pattern TEXT_ABOVE_FEED = Pattern.compile("// \"(.*)\".*\nx\\.feed\\((.*)\\);");
    private static final String NEW_OBJECT = "RuleBroadcast x = new RuleBroadcast();";

    private final List<String> calls = new ArrayList<>();
    private final List<Long> answers = new ArrayList<>();
    private final Set<String> names = new TreeSet<>();
    private final StringBuilder helpers = new StringBuilder();
    private final StringBuilder examples = new StringBuilder();

    private ReadmeTest() {
    }

    public static void main(String[] args) throws Exception {
        Due.in("README.md");
        String page = Files.readString(Path.of("README.md"));
        int tests = page.indexOf("## How to run its tests");
        Due.isTrue("it says how to use the class, then how to run its tests",
                page.contains("## How to use it") && page.indexOf("## How to use it") < tests);
        ReadmeTest it = new ReadmeTest();
        it.read(page);
        it.compare();
        it.showsEachCall();
        constants(page);
        texts(page);
        wayToRunTests(page.substring(Math.max(0, tests)));
        Due.end();
    }

    private void read(String page) {
        Matcher block = BLOCK.matcher(page);
        while (block.find()) {
            if (!block.group(1).equals("java")) {
                continue;
            }
            if (block.group(2).startsWith("static ")) {
                helpers.append(block.group(2));
            } else {
                Due.isTrue("each part begins with a new object", block.group(2).startsWith(NEW_OBJECT + "\n"));
                examples.append("{\n");
                block.group(2).lines().forEach(this::readLine);
                examples.append("}\n");
            }
        }
    }

    /** A call has its answer beside it; what is no call is a new object or a comment. */
    private void readLine(String line) {
        Matcher call = CALL.matcher(line);
        if (call.matches()) {
            calls.add(call.group(1));
            answers.add(Long.valueOf(call.group(3)));
            names.add(call.group(2));
            examples.append("got.add((long) ").append(call.group(1)).append(");\n");
        } else {
            Due.isTrue(line + " : a call and its answer, or a new object, or a comment",
                    line.equals(NEW_OBJECT) || line.startsWith("//"));
            examples.append(line).append("\n");
        }
    }

    private void compare() throws Exception {
        Path folder = Files.createTempDirectory("readme");
        List<Long> got = new ArrayList<>();
        try (URLClassLoader loader = new URLClassLoader(new URL[] {folder.toUri().toURL()})) {
            Path file = folder.resolve("ReadmeShows.java");
            Files.writeString(file, "public final class ReadmeShows {\n" + helpers
                    + "public static void run(java.util.List<Long> got) {\n" + examples + "}\n}\n");
            int wrong = new ProcessBuilder("javac", "-cp", System.getProperty("java.class.path"),
                    "-d", folder.toString(), file.toString()).inheritIO().start().waitFor();
            Due.is("compiling what it shows", wrong, 0);
            if (wrong == 0) {
                loader.loadClass("ReadmeShows").getMethod("run", List.class).invoke(null, got);
            }
        } finally {
            remove(folder);
        }
        Due.is("calls that were done", got.size(), calls.size());
        for (int i = 0; i < got.size(); i++) {
            Due.is(calls.get(i), got.get(i), answers.get(i));
        }
    }

    private static void remove(Path folder) throws IOException {
        try (Stream<Path> files = Files.list(folder)) {
            for (Path file : files.collect(Collectors.toList())) {
                Files.delete(file);
            }
        }
        Files.delete(folder);
    }

    private void showsEachCall() {
        for (Method m : RuleBroadcast.class.getDeclaredMethods()) {
            Due.isTrue("it shows " + m.getName() + "()",
                    !Modifier.isPublic(m.getModifiers()) || names.contains(m.getName()));
        }
    }

    /** Where it tells the number of BAD, FULL, .. it is the one that the class has. */
    private static void constants(String page) throws Exception {
        Matcher told = Pattern.compile("// (-\\d+): ([A-Z]{2,})\\b|`([A-Z]{2,})` \\((-\\d+)\\)").matcher(page);
        int found = 0;
        while (told.find()) {
            String name = told.group(2) != null ? told.group(2) : told.group(3);
            String number = told.group(1) != null ? told.group(1) : told.group(4);
            Due.is(name, RuleBroadcast.class.getField(name).getInt(null), Long.parseLong(number));
            found++;
        }
        Due.isTrue("it tells constants", found > 0);
    }

    /** The text that stands in a comment above a feed is what the feed's numbers hold, but for blanks. */
    private static void texts(String page) {
        Matcher feed = TEXT_ABOVE_FEED.matcher(page);
        Due.isTrue("it shows a feed and its text", feed.find());
        StringBuilder text = new StringBuilder();
        for (String number : feed.group(2).split(", ")) {
            for (int shift = 24; shift >= 0; shift -= 8) {
                text.append((char) (Integer.decode(number) >>> shift & 255));
            }
        }
        Due.isTrue("the feed holds " + feed.group(1) + ", not " + text, text.toString().strip().equals(feed.group(1)));
    }

    private static void wayToRunTests(String part) throws IOException {
        Matcher block = BLOCK.matcher(part);
        Due.isTrue("it shows how to run the tests", block.find());
        Due.isTrue("one command, .ci/run", block.group(1).equals("sh") && block.group(2).equals(".ci/run\n"));
        Due.isTrue("no other command", !block.find());
        Due.isTrue(".ci/run can be run", Files.isExecutable(Path.of(".ci/run")));
        Set<String> told = found("`([^`\\s]*\\*[^`\\s]*)`", part);
        Set<String> run = found("for file in (\\S+); do", Files.readString(Path.of(".ci/run")));
        Due.isTrue("it says that " + told + " is run, .ci/run runs " + run, told.equals(run) && run.size() == 2);
        Set<String> there = new TreeSet<>();
        try (Stream<Path> files = Files.list(Path.of("src/test/java"))) {
            files.forEach(file -> there.add(file.getFileName().toString()));
        }
        Set<String> named = found("`(\\w+\\.java)`", part);
        Due.isTrue("it names " + named + ", there is " + there, named.equals(there));
    }

    private static Set<String> found(String pattern, String text) {
        return Pattern.compile(pattern).matcher(text).results().map(it -> it.group(1))
                .collect(Collectors.toCollection(TreeSet::new));
    }
}
