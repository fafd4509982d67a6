import java.io.IOException;
import java.lang.reflect.Method;
import java.lang.reflect.Modifier;
import java.net.URL;
import java.net.URLClassLoader;
import java.nio.file.DirectoryStream;
import java.nio.file.Files;
import java.nio.file.Path;
import java.util.ArrayList;
import java.util.List;
import java.util.Set;
import java.util.TreeSet;
import java.util.regex.Matcher;
import java.util.regex.Pattern;
import javax.tools.JavaCompiler;
import javax.tools.ToolProvider;

/** README.md is read, and what it says is tried: its example, its texts with their faults, its calls, its tests. */
public final class ReadmeTest {
    private static final Path TESTS = Path.of("src", "test", "java");
    private static final Pattern ANSWER = Pattern.compile("^int (\\w+) = .*; +// (-?\\d+): .*$");
    private static final Pattern FAULT = Pattern.compile("^\\| `([^`]*)` \\| (-?\\d+) \\| (-?\\d+) \\| .* \\|$", Pattern.MULTILINE);
    private static final Pattern CALL = Pattern.compile("`(\\w+)\\(([\\w, ]*)\\)`");
    private static final Pattern TEST_ROW = Pattern.compile("^\\| `(\\w+Test)` \\| .* \\|$", Pattern.MULTILINE);
    private static final Pattern PART = Pattern.compile("`(\\w+Bounds|Refusals|Sentences)`");

    public static void main(String[] args) throws Exception {
        String page = Files.readString(Path.of("README.md"));
        example(page);
        faults(page);
        calls(page);
        tests(page);
        Due.end("ReadmeTest");
    }

    /** The lines between the marks of the page's first example. */
    private static List<String> exampleLines(String page) {
        int from = page.indexOf("```java\n");
        int to = page.indexOf("\n```\n", from);
        return from < 0 || to < 0 ? List.of() : List.of(page.substring(from + 8, to).split("\n"));
    }

    /** The example is compiled as it stands; each answer with a number beside it must be that number. */
    private static void example(String page) throws Exception {
        Due.in("README.md, the example");
        List<String> names = new ArrayList<>();
        List<Integer> due = new ArrayList<>();
        StringBuilder body = new StringBuilder();
        for (String line : exampleLines(page)) {
            body.append(line).append('\n');
            Matcher answer = ANSWER.matcher(line);
            if (answer.matches()) {
                names.add(answer.group(1));
                due.add(Integer.parseInt(answer.group(2)));
            }
        }
        Due.holds("it tells too few answers", names.size() >= 7);
        int[] got = run(body, names);
        for (int i = 0; i < names.size(); i++) {
            Due.is(names.get(i), got[i], due.get(i));
        }
    }

    private static int[] run(StringBuilder body, List<String> names) throws Exception {
        Path folder = Files.createTempDirectory("readme");
        Path source = folder.resolve("ReadmeExample.java");
        Path made = folder.resolve("ReadmeExample.class");
        Files.writeString(source, "public final class ReadmeExample {\npublic static int[] answers() {\n" + body
            + "return new int[] {" + String.join(", ", names) + "};\n}\n}\n");
        try {
            JavaCompiler compiler = ToolProvider.getSystemJavaCompiler();
            String path = System.getProperty("java.class.path");
            int wrong = compiler.run(null, null, null, "-cp", path, "-d", folder.toString(), source.toString());
            Due.is("javac", wrong, 0);
            if (wrong != 0) {
                return new int[names.size()];
            }
            try (URLClassLoader loader = new URLClassLoader(new URL[] {folder.toUri().toURL()})) {
                return (int[]) loader.loadClass("ReadmeExample").getMethod("answers").invoke(null);
            }
        } finally {
            Files.deleteIfExists(source);
            Files.deleteIfExists(made);
            Files.deleteIfExists(folder);
        }
    }

    private static void faults(String page) {
        Due.in("README.md, the texts");
        Set<Integer> kinds = new TreeSet<>();
        Matcher row = FAULT.matcher(page);
        while (row.find()) {
            BaredCurtain x = new BaredCurtain();
            Due.feed(x, row.group(1));
            int answer = x.house();
            kinds.add(answer);
            Due.is("house() of " + row.group(1), answer, Integer.parseInt(row.group(2)));
            Due.is("fault() of " + row.group(1), x.fault(), Integer.parseInt(row.group(3)));
            Due.is("told(3) behind " + row.group(1), x.told(3), 0);
        }
        Due.holds("it tells " + kinds, kinds.equals(Set.of(0, -11, -12, -13, -14)));
    }

    private static void calls(String page) {
        Due.in("README.md, the calls");
        Set<String> told = new TreeSet<>();
        Matcher call = CALL.matcher(page);
        while (call.find()) {
            told.add(call.group(1) + " of " + (call.group(2).isEmpty() ? 0 : call.group(2).split(", ").length));
        }
        Set<String> there = new TreeSet<>();
        for (Method m : BaredCurtain.class.getDeclaredMethods()) {
            if (Modifier.isPublic(m.getModifiers())) {
                there.add(m.getName() + " of " + m.getParameterCount());
            }
        }
        Due.holds("it tells " + told + ", there is " + there, told.equals(there));
    }

    private static void tests(String page) throws IOException {
        Due.in("README.md, the tests");
        Set<String> told = new TreeSet<>();
        Matcher row = TEST_ROW.matcher(page);
        while (row.find()) {
            told.add(row.group(1));
        }
        Set<String> there = new TreeSet<>();
        try (DirectoryStream<Path> files = Files.newDirectoryStream(TESTS, "*Test.java")) {
            for (Path file : files) {
                there.add(file.getFileName().toString().replace(".java", ""));
            }
        }
        Due.holds("it tells " + told + ", there is " + there, told.equals(there));
        String bounds = Files.readString(TESTS.resolve("BoundsTest.java"));
        Matcher part = PART.matcher(page);
        int parts = 0;
        while (part.find()) {
            parts++;
            Due.holds("BoundsTest does not run " + part.group(1), bounds.contains(part.group(1) + "."));
        }
        Due.holds("it tells " + parts + " parts", parts >= 9);
    }
}
