import java.lang.reflect.Constructor;
import java.lang.reflect.Field;
import java.lang.reflect.Method;
import java.lang.reflect.Modifier;
import java.util.Arrays;
import java.util.Set;
import java.util.TreeSet;

/** The public face is the document's, and nothing else can be seen from outside. */
final class FaceTest {
    private static final String[] FACE = {
        "int chair(int,int,int)", "int chairOf(int,int)", "int person(int)", "int of(int,int)", "int set(int,int,int)",
        "int turn(int,int)", "int as(int,int)", "int quarrel(int,int,int)", "int sit(int,int)", "int change(int,int)",
        "int well(int,int)", "int hours(int)", "int now(int)", "int on(int,int,int)", "int peace(int)", "int settles()",
        "int gets(int,int)", "int best()", "int mend(int)", "int kind(int,int)", "int claim(int,int)",
        "int years(int,int,int)", "int always(int)", "int beside(int)", "int feed(int,int)", "int wipe()", "int room()",
        "int sheet(int,int,int)", "long write(int,int,long)", "int copy(int,int,int,int,int)", "int lays(int)",
        "int book(int,int)", "int read(int,int)", "int image()", "int undo()", "int tear()", "int count(int)",
        "int status(int)"};

    public static void main(String[] args) {
        Set<String> seen = new TreeSet<>();
        Set<String> names = new TreeSet<>();
        for (Method m : WindowChairs.class.getDeclaredMethods()) {
            if (Modifier.isPublic(m.getModifiers())) {
                seen.add(told(m));
                names.add(m.getName());
            } else {
                Due.due(m + " is private", Modifier.isPrivate(m.getModifiers()) ? 1 : 0, 1);
            }
        }
        Due.due("the face", seen.toString(), new TreeSet<>(Arrays.asList(FACE)).toString());
        Due.due("final and public", WindowChairs.class.getModifiers(), Modifier.PUBLIC | Modifier.FINAL);
        Constructor<?>[] made = WindowChairs.class.getDeclaredConstructors();
        Due.due("one constructor", made.length, 1);
        Due.due("public, of nothing", made[0].toString(), "public WindowChairs()");
        for (Field f : WindowChairs.class.getDeclaredFields()) {
            Due.due(f + " is private", Modifier.isPrivate(f.getModifiers()) ? 1 : 0, 1);
            Due.due(f + " is final, if static", Modifier.isStatic(f.getModifiers()) && !Modifier.isFinal(f.getModifiers()) ? 0 : 1, 1);
        }
        inside(names);
        Due.end();
    }

    private static void inside(Set<String> names) {
        Class<?>[] classes = WindowChairs.class.getDeclaredClasses();
        Due.due("at most twelve classes", classes.length <= 12 ? 1 : 0, 1);
        for (Class<?> c : classes) {
            Due.due(c + " is static", Modifier.isStatic(c.getModifiers()) ? 1 : 0, 1);
            Due.due(c + " isn't public", Modifier.isPublic(c.getModifiers()) || Modifier.isProtected(c.getModifiers()) ? 0 : 1, 1);
            Due.due(c + " has at most twenty fields", c.getDeclaredFields().length <= 20 ? 1 : 0, 1);
            for (Method m : c.getDeclaredMethods()) {
                Due.due(m + " has a name of its own", names.contains(m.getName()) ? 0 : 1, 1);
            }
        }
    }

    private static String told(Method m) {
        StringBuilder args = new StringBuilder();
        for (Class<?> p : m.getParameterTypes()) {
            args.append(args.length() == 0 ? "" : ",").append(p.getName());
        }
        return m.getReturnType().getName() + " " + m.getName() + "(" + args + ")";
    }
}
