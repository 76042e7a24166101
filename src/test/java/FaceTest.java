import java.io.IOException;
import java.lang.reflect.Constructor;
import java.lang.reflect.Field;
import java.lang.reflect.Method;
import java.lang.reflect.Modifier;
import java.nio.file.Files;
import java.nio.file.Path;
import java.util.ArrayList;
import java.util.Arrays;
import java.util.List;
import java.util.Set;
import java.util.TreeSet;
import java.util.regex.Matcher;
import java.util.regex.Pattern;

/** The public face is the document's, and nothing else can be seen from outside; run from the project's root. */
final class FaceTest {
    private static final String[] FACE = {
        "int chair(int,int,int)", "int chairOf(int,int)", "int person(int)", "int of(int,int)", "int set(int,int,int)",
        "int turn(int,int)", "int as(int,int)", "int quarrel(int,int,int)", "int sit(int,int)", "int change(int,int)",
        "int well(int,int)", "int hours(int)", "int now(int)", "int on(int,int,int)", "int peace(int)", "int settles()",
        "int gets(int,int)", "int best()", "int mend(int)", "int kind(int,int)", "int claim(int,int)",
        "int years(int,int,int)", "int always(int)", "int beside(int)", "int feed(int,int)", "int wipe()", "int room()",
        "int sheet(int,int,int)", "long write(int,int,long)", "int copy(int,int,int,int,int)", "int lays(int)",
        "int book(int,int)", "int read(int,int)", "int image()", "int undo()", "int tear()", "int count(int)",
        "int status(int)"};

    public static void main(String[] args) throws IOException {
        Set<String> seen = new TreeSet<>();
        Set<String> names = new TreeSet<>();
        for (Method m : WindowChairs.class.getDeclaredMethods()) {
            if (Modifier.isPublic(m.getModifiers())) {
                seen.add(told(m));
                names.add(m.getName());
            } else {
                Due.due(m + " is private", Modifier.isPrivate(m.getModifiers()) ? 1 : 0, 1);
            }
        }
        Due.due("the face", seen.toString(), new TreeSet<>(Arrays.asList(FACE)).toString());
        Due.due("final and public", WindowChairs.class.getModifiers(), Modifier.PUBLIC | Modifier.FINAL);
        Constructor<?>[] made = WindowChairs.class.getDeclaredConstructors();
        Due.due("one constructor", made.length, 1);
        Due.due("public, of nothing", made[0].toString(), "public WindowChairs()");
        for (Field f : WindowChairs.class.getDeclaredFields()) {
            Due.due(f + " is private", Modifier.isPrivate(f.getModifiers()) ? 1 : 0, 1);
            Due.due(f + " is final, if static", Modifier.isStatic(f.getModifiers()) && !Modifier.isFinal(f.getModifiers()) ? 0 : 1, 1);
        }
        for (Method m : WindowChairs.class.getDeclaredMethods()) {
            if (!Modifier.isPublic(m.getModifiers())) {
                Due.due(m + " has a name of its own", names.contains(m.getName()) ? 0 : 1, 1);
            }
        }
        inside(names);
        inOrder();
        Due.end();
    }

    private static void inside(Set<String> names) {
        Class<?>[] classes = WindowChairs.class.getDeclaredClasses();
        Due.due("at most twelve classes", classes.length <= 12 ? 1 : 0, 1);
        for (Class<?> c : classes) {
            Due.due(c + " is static", Modifier.isStatic(c.getModifiers()) ? 1 : 0, 1);
            Due.due(c + " isn't public", Modifier.isPublic(c.getModifiers()) || Modifier.isProtected(c.getModifiers()) ? 0 : 1, 1);
            Due.due(c + " has at most twenty fields", c.getDeclaredFields().length <= 20 ? 1 : 0, 1);
            for (Method m : c.getDeclaredMethods()) {
                Due.due(m + " has a name of its own", names.contains(m.getName()) ? 0 : 1, 1);
            }
        }
    }

    /** The document's own lines of the face and what the interface says ahead of them, against those of the file. */
    private static void inOrder() throws IOException {
        String doc = Files.readString(Path.of("../shared/DOC.md"));
        String file = Files.readString(Path.of("src/main/java/WindowChairs.java"));
        List<String> face = all("(?m)^    public (.*\\));$", doc);
        Due.due("the face, in the document's order", all("(?m)^    public (.*\\)) \\{$", file).toString(), face.toString());
        StringBuilder due = new StringBuilder();
        Matcher m = Pattern.compile("(?m)^Ahead of the calls (.*) the interface says: (---- .*)\\.$").matcher(doc);
        while (m.find()) {
            due.append(m.group(2)).append(' ').append(all("`(\\w+)`", m.group(1))).append(' ');
        }
        StringBuilder says = new StringBuilder();
        for (String part : file.split("(?m)^    // (?=---- )")) {
            List<String> calls = all("(?m)^    public \\w+ (\\w+)\\(.*\\{$", part);
            if (part.startsWith("----") && !calls.isEmpty()) {
                says.append(part.lines().findFirst().get()).append(' ').append(calls).append(' ');
            }
        }
        Due.due("what the interface says ahead of calls", says.toString(), due.toString());
        Due.due("seven of them", says.toString().split("----").length - 1, 7);
    }

    private static List<String> all(String pattern, String text) {
        List<String> found = new ArrayList<>();
        Matcher m = Pattern.compile(pattern).matcher(text);
        while (m.find()) {
            found.add(m.group(1));
        }
        return found;
    }

    private static String told(Method m) {
        StringBuilder args = new StringBuilder();
        for (Class<?> p : m.getParameterTypes()) {
            args.append(args.length() == 0 ? "" : ",").append(p.getName());
        }
        return m.getReturnType().getName() + " " + m.getName() + "(" + args + ")";
    }
}
