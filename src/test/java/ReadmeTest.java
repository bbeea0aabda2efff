import java.io.IOException;
import java.lang.reflect.Method;
import java.lang.reflect.Modifier;
import java.net.URL;
import java.net.URLClassLoader;
import java.nio.file.Files;
import java.nio.file.Path;
import java.util.ArrayList;
import java.util.Comparator;
import java.util.List;
import java.util.Set;
import java.util.TreeSet;
import java.util.regex.Matcher;
import java.util.regex.Pattern;
import java.util.stream.Collectors;
import java.util.stream.Stream;
import javax.tools.ToolProvider;

/** What README.md says: its examples are compiled and run as they stand there, and its tests are those that .ci/run runs. */
public final class ReadmeTest {
    private static final Pattern BLOCK = Pattern.compile("(?s)```java\n(.*?)```");
    /** One call, or the two that tell a fraction, and behind them the answers. */
    private static final Pattern ROW = Pattern.compile("(x\\.[^;]*\\));(?: (x\\.[^;]*\\));)?\\s*// (-?\\d+)(?: by (-?\\d+))?: .*");
    private static final Pattern MAKES = Pattern.compile("LongestMet x = new LongestMet\\(\\);");
    private static final Pattern TYPES = Pattern.compile("for \\(char c : \"([^\"]*)\"\\.toCharArray\\(\\)\\) x\\.type\\(c\\);");
    private static final Pattern TABLE = Pattern.compile("(?m)^\\| `(\\w+)` \\| (.*) \\|$");
    private static final int MOST_CALLS = 512;

    private final String readme;
    private final StringBuilder program = new StringBuilder();
    private final List<String> calls = new ArrayList<>();
    private final List<Long> answers = new ArrayList<>();
    private int typed = 0;

    private ReadmeTest(String readme) {
        this.readme = readme;
    }

    public static void main(String[] args) throws Exception {
        ReadmeTest test = new ReadmeTest(Files.readString(Path.of("README.md")));
        test.readExamples();
        test.runExamples();
        test.everyCallIsShown();
        test.testsAreThoseThatRun();
        test.promisesAreShared();
        test.classesAreNamed();
        Due.end();
    }

    private void readExamples() {
        for (Matcher block = BLOCK.matcher(readme); block.find(); ) block.group(1).lines().forEach(this::readRow);
        Due.isTrue("README.md has examples", calls.size() > 50);
        Due.isTrue("the object of README.md keeps to 512 calls", typed + calls.size() <= MOST_CALLS);
    }

    private void readRow(String row) {
        Matcher types = TYPES.matcher(row);
        if (MAKES.matcher(row).matches() || types.matches()) {
            if (types.matches()) typed += types.group(1).length();
            program.append(row).append('\n');
            return;
        }
        Matcher told = ROW.matcher(row);
        boolean asMany = told.matches() && (told.group(2) == null) == (told.group(4) == null);
        Due.isTrue("README.md tells what is answered by " + row, asMany);
        if (!asMany) return;
        call(told.group(1), told.group(3));
        if (told.group(2) != null) call(told.group(2), told.group(4));
    }

    private void call(String call, String answer) {
        program.append("answers.add((long) ").append(call).append(");\n");
        calls.add(call);
        answers.add(Long.parseLong(answer));
    }

    private void runExamples() throws Exception {
        String source = "public final class Examples {\npublic static java.util.List<Long> answers() {\n"
            + "java.util.List<Long> answers = new java.util.ArrayList<>();\n" + program + "return answers;\n}\n}\n";
        Path folder = Files.createTempDirectory("readme");
        try {
            Path file = Files.writeString(folder.resolve("Examples.java"), source);
            int refused = ToolProvider.getSystemJavaCompiler().run(null, null, null,
                "-cp", System.getProperty("java.class.path"), "-d", folder.toString(), file.toString());
            Due.is("the examples of README.md compile", refused, 0);
            if (refused == 0) compareIn(folder);
        } finally {
            remove(folder);
        }
    }

    private void compareIn(Path folder) throws Exception {
        try (URLClassLoader loader = new URLClassLoader(new URL[] {folder.toUri().toURL()})) {
            List<?> got = (List<?>) loader.loadClass("Examples").getMethod("answers").invoke(null);
            for (int i = 0; i < calls.size(); i++) Due.is("README.md: " + calls.get(i), (Long) got.get(i), answers.get(i));
        }
    }

    private static void remove(Path folder) throws IOException {
        try (Stream<Path> all = Files.walk(folder)) {
            for (Path path : all.sorted(Comparator.reverseOrder()).toList()) Files.delete(path);
        }
    }

    private void everyCallIsShown() {
        for (Method m : LongestMet.class.getDeclaredMethods()) {
            boolean shown = program.indexOf("x." + m.getName() + "(") >= 0 || readme.contains("`" + m.getName() + "`");
            if (Modifier.isPublic(m.getModifiers())) Due.isTrue("README.md shows or names " + m.getName(), shown);
        }
    }

    private static Set<String> files(String ending) throws IOException {
        try (Stream<Path> all = Files.list(Path.of("src/test/java"))) {
            return all.map(path -> path.getFileName().toString()).filter(name -> name.endsWith(ending + ".java"))
                .map(name -> name.replace(".java", "")).collect(Collectors.toCollection(TreeSet::new));
        }
    }

    private void testsAreThoseThatRun() throws IOException {
        Set<String> listed = TABLE.matcher(readme).results().map(row -> row.group(1)).collect(Collectors.toCollection(TreeSet::new));
        Due.isTrue("README.md lists " + listed + ", there are " + files("Test"), listed.equals(files("Test")));
        for (String edges : files("Edges")) Due.isTrue("README.md names " + edges, readme.contains("`" + edges + "`"));
        Due.isTrue("README.md says how the tests are run", readme.contains("```sh\n.ci/run\n```"));
        Due.isTrue(".ci/run can be run", Files.isExecutable(Path.of(".ci/run")));
        String ci = Files.readString(Path.of(".ci/run"));
        for (String place : new String[] {"src/test/java/*Test.java", "../shared/tests"}) {
            Due.isTrue("README.md and .ci/run name " + place, readme.contains("`" + place + "`") && ci.contains(place));
        }
    }

    /** The promises that the table gives to a test have methods of their own there, and no promise is left. */
    private void promisesAreShared() throws IOException {
        Set<Integer> left = new TreeSet<>();
        for (int promise = 1; promise <= 41; promise++) left.add(promise);
        for (Matcher row = TABLE.matcher(readme); row.find(); ) {
            if (!row.group(2).startsWith("promises ")) continue;
            String test = Files.readString(Path.of("src/test/java", row.group(1) + ".java"));
            for (int promise : promisesOf(row.group(2).substring("promises ".length()))) {
                left.remove(promise);
                Due.isTrue(row.group(1) + " tests promise " + promise, Pattern.compile("void promise" + promise + "[A-Z]").matcher(test).find());
            }
        }
        Due.isTrue("README.md tells of no test of promises " + left, left.isEmpty());
    }

    private static List<Integer> promisesOf(String words) {
        List<Integer> promises = new ArrayList<>();
        for (String part : words.split(", ")) {
            String[] ends = part.split(" to ");
            int last = Integer.parseInt(ends[ends.length - 1]);
            for (int promise = Integer.parseInt(ends[0]); promise <= last; promise++) promises.add(promise);
        }
        return promises;
    }

    private void classesAreNamed() {
        for (Class<?> c : LongestMet.class.getDeclaredClasses()) {
            Due.isTrue("README.md names the class " + c.getSimpleName(), readme.contains("`" + c.getSimpleName() + "`"));
        }
    }
}
