import java.io.IOException;
import java.lang.reflect.Method;
import java.lang.reflect.Modifier;
import java.nio.file.Files;
import java.nio.file.Path;
import java.util.ArrayList;
import java.util.Comparator;
import java.util.HashMap;
import java.util.List;
import java.util.Map;
import java.util.regex.Matcher;
import java.util.regex.Pattern;
import java.util.stream.Stream;

/** README.md: its calls answer what it says, each call of the face is in it, its commands work on a clean checkout. */
public final class ReadmeTest {
    private static final Path HOME = Path.of(System.getProperty("home", "."));
    private static final Pattern MADE = Pattern.compile("TabledFrames (\\w+) = new TabledFrames\\(\\);");
    private static final Pattern CALLED = Pattern.compile("(\\w+)\\.(\\w+)\\((.*)\\);\\s+// (-?\\d+)\\b.*");

    private ReadmeTest() {
    }

    public static void main(String[] args) throws Exception {
        String readme = Files.readString(HOME.resolve("README.md"));
        everyCall(readme);
        everyNumber(readme, "what is not 0 .. 11", "\n| what | tells |", 0, 11);
        everyNumber(readme, "faults 1 to 20", "\n| fault | what is wrong |", 1, 21);
        List<String> examples = blocks(readme, "java");
        Check.due("it has examples", examples.isEmpty() ? 0 : 1, 1);
        for (String example : examples) {
            runCalls(example);
        }
        runCommands(blocks(readme, "sh"));
        Check.end();
    }

    /** What stands between the fences of a language. */
    private static List<String> blocks(String text, String language) {
        List<String> all = new ArrayList<>();
        Matcher m = Pattern.compile("(?s)\n```" + language + "\n(.*?)\n```\n").matcher(text);
        while (m.find()) {
            all.add(m.group(1));
        }
        return all;
    }

    /** The table of calls has a line for each, with what it takes. */
    private static void everyCall(String readme) {
        int calls = 0;
        for (Method method : TabledFrames.class.getDeclaredMethods()) {
            if (!Modifier.isPublic(method.getModifiers())) {
                continue;
            }
            StringBuilder takes = new StringBuilder();
            for (Class<?> type : method.getParameterTypes()) {
                takes.append(takes.length() == 0 ? "" : ", ").append(type.getName()).append(" \\w+");
            }
            Pattern line = Pattern.compile("\n\\| `" + method.getName() + "\\(" + takes + "\\)` \\|");
            Check.due("README.md has a line for " + method.getName(), line.matcher(readme).find() ? 1 : 0, 1);
            calls++;
        }
        Check.due("calls", calls, 18);
    }

    /** The table behind a heading has a line for each number. */
    private static void everyNumber(String readme, String said, String heading, int first, int last) {
        Check.due("README.md says " + said, readme.contains(said) ? 1 : 0, 1);
        int from = readme.indexOf(heading);
        Check.due("README.md has the table" + heading, from < 0 ? 0 : 1, 1);
        if (from < 0) {
            return;
        }
        int end = readme.indexOf("\n\n", from);
        String lines = readme.substring(from, end < 0 ? readme.length() : end);
        for (int n = first; n <= last; n++) {
            Pattern line = Pattern.compile("\n\\| (\\d+, )*" + n + "(, \\d+)* \\|");
            Check.due("README.md has a line for " + n, line.matcher(lines).find() ? 1 : 0, 1);
        }
    }

    private static void runCalls(String example) throws Exception {
        Map<String, TabledFrames> made = new HashMap<>();
        for (String line : example.split("\n")) {
            Matcher object = MADE.matcher(line);
            Matcher call = CALLED.matcher(line);
            if (object.matches()) {
                made.put(object.group(1), new TabledFrames());
            } else if (call.matches() && made.containsKey(call.group(1))) {
                int answer = answerOf(made.get(call.group(1)), call.group(2), call.group(3));
                Check.due("README.md: " + line, answer, Integer.parseInt(call.group(4)));
            } else {
                Check.due("README.md: this is no call with its answer: " + line, 1, 0);
            }
        }
    }

    private static int answerOf(TabledFrames x, String name, String texts) throws Exception {
        for (Method method : TabledFrames.class.getDeclaredMethods()) {
            if (!method.getName().equals(name) || !Modifier.isPublic(method.getModifiers())) {
                continue;
            }
            Class<?>[] types = method.getParameterTypes();
            String[] given = texts.isEmpty() ? new String[0] : texts.split(", ");
            Object[] values = new Object[types.length];
            for (int i = 0; i < types.length && given.length == types.length; i++) {
                values[i] = types[i] == long.class ? Long.valueOf(given[i].replace("L", ""))
                    : types[i] == int.class ? Integer.valueOf(given[i]) : Boolean.valueOf(given[i]);
            }
            return (int) method.invoke(x, values);
        }
        throw new IllegalArgumentException("no call " + name);
    }

    /** In a copy, so that what they write does not stay; .ci/run is what runs this test. */
    private static void runCommands(List<String> commands) throws Exception {
        Check.due(".ci/run is told", commands.contains(".ci/run") ? 1 : 0, 1);
        Check.due(".ci/run can be run", Files.isExecutable(HOME.resolve(".ci/run")) ? 1 : 0, 1);
        Path work = Files.createTempDirectory("readme");
        try {
            Path home = HOME.toRealPath();
            copy(home.resolve("src"), work.resolve("main/src"));
            copy(home.resolve("../shared/tests"), work.resolve("shared/tests"));
            int run = 0;
            for (String command : commands) {
                if (!command.equals(".ci/run")) {
                    Check.due("README.md: " + command, exitOf(command, work), 0);
                    run++;
                }
            }
            Check.due("commands to compile and to test", run >= 2 ? 1 : 0, 1);
        } finally {
            remove(work);
        }
    }

    private static int exitOf(String command, Path work) throws IOException, InterruptedException {
        Path printed = work.resolve("printed");
        Process process = new ProcessBuilder("sh", "-e", "-c", command).directory(work.resolve("main").toFile())
            .redirectErrorStream(true).redirectOutput(printed.toFile()).start();
        int exit = process.waitFor();
        if (exit != 0) {
            System.out.print(Files.readString(printed));
        }
        return exit;
    }

    private static void copy(Path from, Path to) throws IOException {
        try (Stream<Path> all = Files.walk(from)) {
            for (Path path : all.toList()) {
                Path target = to.resolve(from.relativize(path).toString());
                Files.createDirectories(target.getParent());
                if (Files.isDirectory(path)) {
                    Files.createDirectories(target);
                } else {
                    Files.write(target, Files.readAllBytes(path));
                }
            }
        }
    }

    private static void remove(Path work) throws IOException {
        try (Stream<Path> all = Files.walk(work)) {
            for (Path path : all.sorted(Comparator.reverseOrder()).toList()) {
                Files.delete(path);
            }
        }
    }
}
