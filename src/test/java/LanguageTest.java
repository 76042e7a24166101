import java.io.IOException;
import java.nio.file.Files;
import java.nio.file.Path;
import java.util.List;
import java.util.regex.Matcher;
import java.util.regex.Pattern;

/** Those rules of LANGUAGE.md that can be seen in the text of the file; run from the project's root. */
final class LanguageTest {
    private static final Path FILE = Path.of("src/main/java/WindowChairs.java");
    private static final String[] NOT_ALLOWED = {
        "\\bthrows?\\b", "\\btry\\b", "\\bcatch\\b", "\\bsynchronized\\b", "\\bassert\\b", "\\bprotected\\b", "\\bpackage\\b",
        "->", "::", "Exact\\b", "\\bvar\\b", "\\bnew\\s+\\w+\\s*\\([^)]*\\)\\s*\\{", "\\bSystem\\.(?!arraycopy\\b)", "\\bThread\\b",
        "\\bRandom\\b", "\\bObject\\b", "\\bstatic\\s*\\{", "\\bhashCode\\b", "\\btoString\\b"};

    private static final List<String> LIBRARY = List.of("Math.min", "Math.max", "Integer.bitCount", "Arrays.fill", "System.arraycopy");

    public static void main(String[] args) throws IOException {
        String all = Files.readString(FILE);
        String code = all.replaceAll("(?s)/\\*.*?\\*/", "").replaceAll("//[^\n]*", "").replaceAll("\"[^\"\n]*\"", "\"\"");
        for (String pattern : NOT_ALLOWED) {
            Matcher m = Pattern.compile(pattern).matcher(code);
            Due.due("rule: no " + pattern, m.find() ? m.group() : "", "");
        }
        Matcher imports = Pattern.compile("import ([^;]+);").matcher(code);
        while (imports.find()) {
            Due.due("rule 4: import " + imports.group(1), List.of("java.util.Arrays", "java.util.ArrayList", "java.util.List")
                .contains(imports.group(1)) ? 1 : 0, 1);
        }
        Matcher library = Pattern.compile("\\b(Math|Integer|Long|Arrays|System|String|StringBuilder)\\.(\\w+)").matcher(code);
        while (library.find()) {
            Due.due("rule 4: " + library.group(), LIBRARY.contains(library.group()) ? 1 : 0, 1);
        }
        Due.due("rule 3: signs", all.chars().allMatch(c -> c < 128) ? 1 : 0, 1);
        methods(code);
        Due.end();
    }

    /** Rule 11: short methods of few parameters. A method here begins and ends at the indent of its class's members. */
    private static void methods(String code) {
        Matcher m = Pattern.compile("(?m)^( {4}| {8})(?:[\\w\\[\\]]+ )*(\\w+)\\(([^)]*)\\) \\{\n(?s:.*?)^\\1\\}").matcher(code);
        int seen = 0;
        while (m.find()) {
            seen++;
            Due.due("rule 11: lines of " + m.group(2), m.group().lines().count() <= 60 ? 1 : 0, 1);
            Due.due("rule 11: parameters of " + m.group(2), m.group(3).split(",").length <= 7 ? 1 : 0, 1);
            // More than rule 12 asks for: this class makes all that it needs with the object.
            boolean isConstructor = Character.isUpperCase(m.group(2).charAt(0));
            Due.due("rule 12: what " + m.group(2) + " makes", isConstructor || !m.group().matches("(?s).*\\bnew\\b.*") ? 1 : 0, 1);
        }
        Due.due("methods seen", seen > 60 ? 1 : 0, 1);
    }
}
