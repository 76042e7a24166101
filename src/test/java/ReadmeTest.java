import java.io.IOException;
import java.io.StringWriter;
import java.net.URL;
import java.net.URLClassLoader;
import java.nio.file.Files;
import java.nio.file.Path;
import java.util.ArrayList;
import java.util.List;
import java.util.Set;
import java.util.TreeSet;
import java.util.regex.Matcher;
import java.util.regex.Pattern;
import java.util.stream.Stream;
import javax.tools.JavaCompiler;
import javax.tools.JavaFileObject;
import javax.tools.StandardJavaFileManager;
import javax.tools.ToolProvider;

/** What README.md shows of calls and answers is as the class answers; run from the project's root. */
final class ReadmeTest {
    private static final Pattern BLOCK = Pattern.compile("(?s)```java\n(.*?)```");
    private static final Pattern SHOWN =
        Pattern.compile("(?:(?:int|long) (\\w+) = )?(\\w[^=]*\\));\\s*// (-?\\d+)(?![\\w.]).*");

    public static void main(String[] args) throws Exception {
        String readme = Files.readString(Path.of("README.md"));
        runs(readme);
        namesEveryCall(readme);
        namesEveryFinding(readme);
        namesEveryTest(readme);
        Due.end();
    }

    /** The blocks become a class, in which every answer that is shown is due. */
    private static void runs(String readme) throws Exception {
        StringBuilder methods = new StringBuilder();
        StringBuilder main = new StringBuilder();
        int shown = 0;
        Matcher blocks = BLOCK.matcher(readme);
        while (blocks.find()) {
            if (blocks.group(1).startsWith("static ")) {
                methods.append(blocks.group(1));
                continue;
            }
            for (String line : blocks.group(1).split("\n")) {
                Matcher m = SHOWN.matcher(line);
                boolean isShown = m.matches();
                main.append(isShown ? due(m) : line).append('\n');
                shown += isShown ? 1 : 0;
                Due.due("README shows an answer, or makes an object: " + line,
                    isShown || line.endsWith("new WindowChairs();") ? 1 : 0, 1);
            }
        }
        Due.due("README shows answers", shown > 20 ? 1 : 0, 1);
        compileAndRun("public final class ReadmeRun {\n" + methods + "public static void run(java.util.List<Object[]> shown) {\n"
            + main + "}\n}\n");
    }

    private static String due(Matcher shown) {
        String call = shown.group(2);
        String name = "README: " + call.replace("\"", "'");
        String one = shown.group(1);
        String made = one == null ? "" : "int " + one + " = " + call + "; ";
        return made + "shown.add(new Object[] {\"" + name + "\", (long) " + (one == null ? call : one) + ", "
            + shown.group(3) + "L});";
    }

    private static void compileAndRun(String source) throws Exception {
        Path out = Files.createTempDirectory("readme");
        try {
            Path file = out.resolve("ReadmeRun.java");
            Files.writeString(file, source);
            JavaCompiler javac = ToolProvider.getSystemJavaCompiler();
            StringWriter said = new StringWriter();
            try (StandardJavaFileManager files = javac.getStandardFileManager(null, null, null)) {
                Iterable<? extends JavaFileObject> units = files.getJavaFileObjects(file);
                List<String> options = List.of("-cp", System.getProperty("java.class.path"), "-d", out.toString());
                boolean compiled = javac.getTask(said, files, null, options, null, units).call();
                Due.due("README compiles: " + said, compiled ? 1 : 0, 1);
                if (compiled) {
                    runIn(out);
                }
            }
        } finally {
            try (Stream<Path> made = Files.list(out)) {
                for (Path p : made.toList()) {
                    Files.delete(p);
                }
            }
            Files.delete(out);
        }
    }

    private static void runIn(Path out) throws Exception {
        List<Object[]> shown = new ArrayList<>();
        URL[] at = {out.toUri().toURL()};
        try (URLClassLoader loader = new URLClassLoader(at, ReadmeTest.class.getClassLoader())) {
            loader.loadClass("ReadmeRun").getMethod("run", List.class).invoke(null, shown);
        }
        for (Object[] answer : shown) {
            Due.due((String) answer[0], (Long) answer[1], (Long) answer[2]);
        }
    }

    /** Each call of the document's face stands in README's table with the same names of its numbers. */
    private static void namesEveryCall(String readme) throws IOException {
        String doc = Files.readString(Path.of("../shared/DOC.md"));
        Matcher m = Pattern.compile("(?m)^    public (?:int|long) (\\w+)\\((.*)\\);$").matcher(doc);
        int seen = 0;
        while (m.find()) {
            seen++;
            String call = m.group(1) + "(" + m.group(2).replaceAll("(int|long) ", "") + ")";
            Due.due("README tells " + call, readme.contains("\n| `" + call + "` | ") ? 1 : 0, 1);
        }
        Due.due("calls of the face", seen, 38);
        Due.due("calls that README tells", readme.split("\n\\| `").length - 1, 38);
    }

    private static void namesEveryFinding(String readme) {
        String[] names = {"BEYOND", "FULL", "KIND", "NONE", "STATE", "MISSING", "SIZE"};
        for (int f = 0; f < names.length; f++) {
            String row = "| " + (Due.BEYOND - f) + " | " + names[f] + " |";
            Due.due("README tells " + names[f], readme.contains(row) ? 1 : 0, 1);
        }
    }

    private static void namesEveryTest(String readme) throws IOException {
        Set<String> tests = new TreeSet<>();
        try (Stream<Path> files = Files.list(Path.of("src/test/java"))) {
            files.map(f -> f.getFileName().toString()).filter(f -> f.endsWith("Test.java"))
                .forEach(f -> tests.add(f.substring(0, f.length() - 5)));
        }
        Set<String> told = new TreeSet<>();
        Matcher m = Pattern.compile("`(\\w+Test)`").matcher(readme);
        while (m.find()) {
            told.add(m.group(1));
        }
        Due.due("tests that README tells", told.toString(), tests.toString());
    }
}
