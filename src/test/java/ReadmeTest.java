import java.io.IOException;
import java.net.URL;
import java.net.URLClassLoader;
import java.nio.file.Files;
import java.nio.file.Path;
import java.util.ArrayList;
import java.util.Comparator;
import java.util.List;
import java.util.Set;
import java.util.TreeSet;
import java.util.regex.Matcher;
import java.util.regex.Pattern;
import java.util.stream.Collectors;
import java.util.stream.Stream;
import javax.tools.ToolProvider;

/** What README.md says is so: its example is compiled and run, its table is set beside the tests. */
public final class ReadmeTest {
    private static final Check CHECK = new Check();
    private static final Pattern ANSWERED = Pattern.compile("(x\\.(\\w+)\\(.*\\));\\s+// (-?\\d+|true|false)(:.*)?");
    private static final Pattern TABLED = Pattern.compile("\\| `(\\w+)` \\| (.*) \\|");
    private static final Pattern PROMISES = Pattern.compile("promises ((?:(?:, )?\\d+(?: to \\d+)?)+)");
    private static final Pattern NAMED = Pattern.compile("`(\\w+)`");

    public static void main(String[] args) throws Exception {
        Path root = Path.of(System.getProperty("project.root", "."));
        String page = Files.readString(root.resolve("README.md"));
        theExample(page);
        theTable(page, root.resolve("src/test/java"));
        theCalls(page);
        CHECK.due(".ci/run can be run", Files.isExecutable(root.resolve(".ci/run")), true);
        CHECK.end();
    }

    private static void theExample(String page) throws Exception {
        int start = page.indexOf("```java\n") + "```java\n".length();
        List<String> answers = new ArrayList<>();
        StringBuilder code = new StringBuilder("public final class Example {\n");
        code.append("public static void run(java.util.List<String> got) {\n");
        for (String line : page.substring(start, page.indexOf("```", start)).split("\n")) {
            Matcher answered = ANSWERED.matcher(line);
            if (answered.matches()) {
                answers.add(answered.group(1) + " answers " + answered.group(3));
                code.append("got.add(String.valueOf(").append(answered.group(1)).append("));\n");
            } else {
                CHECK.due("has no answer that is looked at: " + line, line.contains("//"), false);
                code.append(line).append('\n');
            }
        }
        CHECK.due("the example has answers", answers.size() > 20, true);
        List<String> got = run(code.append("}\n}\n").toString());
        CHECK.due("answers", got.size(), answers.size());
        for (int i = 0; i < Math.min(got.size(), answers.size()); i++) {
            String want = answers.get(i);
            CHECK.due(want + " in README.md, but " + got.get(i), want.endsWith(" answers " + got.get(i)), true);
        }
    }

    private static List<String> run(String code) throws Exception {
        Path work = Files.createTempDirectory("readme");
        List<String> got = new ArrayList<>();
        try {
            Path file = Files.writeString(work.resolve("Example.java"), code);
            String classes = System.getProperty("java.class.path");
            int exit = ToolProvider.getSystemJavaCompiler().run(null, null, null,
                    "-cp", classes, "-d", work.toString(), file.toString());
            CHECK.due("the example compiles", exit, 0);
            if (exit == 0) {
                try (URLClassLoader loader = new URLClassLoader(new URL[] {work.toUri().toURL()})) {
                    loader.loadClass("Example").getMethod("run", List.class).invoke(null, got);
                }
            }
        } finally {
            remove(work);
        }
        return got;
    }

    private static void remove(Path work) throws IOException {
        List<Path> all;
        try (Stream<Path> under = Files.walk(work)) {
            all = under.sorted(Comparator.reverseOrder()).collect(Collectors.toList());
        }
        for (Path one : all) {
            Files.delete(one);
        }
    }

    private static void theTable(String page, Path tests) throws IOException {
        Set<String> there = new TreeSet<>();
        try (Stream<Path> files = Files.list(tests)) {
            files.map(file -> file.getFileName().toString()).filter(name -> name.endsWith("Test.java"))
                    .forEach(name -> there.add(name.replace(".java", "")));
        }
        Set<String> named = new TreeSet<>();
        int[] plain = new int[52];
        int[] atEdges = new int[52];
        Matcher row = TABLED.matcher(page);
        while (row.find()) {
            named.add(row.group(1));
            count(row.group(2), row.group(1).startsWith("EdgesOf") ? atEdges : plain);
        }
        CHECK.due("tests " + there + " in the table " + named, named.equals(there), true);
        for (int number = 1; number <= 51; number++) {
            CHECK.due("tests of promise " + number, plain[number], 1);
            CHECK.due("tests of the edges of promise " + number, atEdges[number], 1);
        }
        for (String helper : new String[] {"Model", "Edges", "Snapshot"}) {
            CHECK.due("names support/" + helper, page.contains("`support/" + helper + "`"), true);
            CHECK.due("support/" + helper, Files.exists(tests.resolve("support/" + helper + ".java")), true);
        }
    }

    private static void count(String what, int[] tests) {
        Matcher promises = PROMISES.matcher(what);
        while (promises.find()) {
            for (String range : promises.group(1).split(", ")) {
                String[] ends = range.split(" to ");
                for (int i = Integer.parseInt(ends[0]); i <= Integer.parseInt(ends[ends.length - 1]); i++) {
                    tests[i]++;
                }
            }
        }
    }

    /** Each call that the page names stands in the face. */
    private static void theCalls(String page) {
        Set<String> face = Stream.of(SaltedGate.class.getMethods()).map(method -> method.getName())
                .collect(Collectors.toSet());
        String use = page.substring(page.indexOf("- A new object"), page.indexOf("## How to run"));
        Matcher name = NAMED.matcher(use);
        while (name.find()) {
            boolean is = face.contains(name.group(1)) || Set.of("NONE", "NoSuchElementException").contains(name.group(1));
            CHECK.due("README.md names " + name.group(1), is, true);
        }
    }
}
