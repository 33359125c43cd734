import java.lang.reflect.Constructor;
import java.lang.reflect.Field;
import java.lang.reflect.Method;
import java.lang.reflect.Modifier;
import java.util.Arrays;
import java.util.Set;
import java.util.TreeSet;

/** The face of the class: what the document names, and nothing else. */
final class FaceTests {
    private static final String[] FACE = {"row III", "set III", "copy IIIII", "drop I", "feed JI", "land ", "fault ", "value I",
        "go II", "tell III", "keeper II", "piece II", "alone III", "best I", "two III", "think III", "lostUse III", "silence IIIII",
        "corner IIII", "make III", "fit II", "laws I", "image I", "restore I", "kind I", "as II", "ask II", "trace I", "count I",
        "status "};

    private FaceTests() {
    }

    static void run() throws Exception {
        constants();
        methods();
        nothingElse();
    }

    private static void constants() throws Exception {
        Check.due(0, "NONE", OldNews.NONE, -1000000);
        Check.due(0, "BAD", OldNews.BAD, -1000001);
        Check.due(0, "STATE", OldNews.STATE, -1000002);
        Check.due(0, "FULL", OldNews.FULL, -1000003);
        Set<String> seen = new TreeSet<>();
        for (Field f : OldNews.class.getDeclaredFields()) {
            if (!Modifier.isPrivate(f.getModifiers())) {
                seen.add(f.getName() + " " + Modifier.toString(f.getModifiers()) + " " + f.getType());
            }
        }
        Set<String> due = new TreeSet<>();
        for (String name : new String[] {"NONE", "BAD", "STATE", "FULL"}) {
            due.add(name + " public static final int");
        }
        Check.due(0, "constants " + seen, seen.equals(due) ? 1 : 0, 1);
    }

    private static void methods() {
        Set<String> seen = new TreeSet<>();
        Set<String> names = new TreeSet<>();
        for (Method m : OldNews.class.getDeclaredMethods()) {
            if (!Modifier.isPrivate(m.getModifiers())) {
                StringBuilder face = new StringBuilder(m.getName()).append(' ');
                for (Class<?> c : m.getParameterTypes()) {
                    face.append(c == int.class ? "I" : c == long.class ? "J" : "?");
                }
                seen.add(face.toString());
                names.add(m.getName());
                boolean plain = m.getModifiers() == Modifier.PUBLIC && m.getReturnType() == int.class;
                Check.due(0, "public int " + face, plain ? 1 : 0, 1);
            }
        }
        Check.due(0, "methods " + seen, seen.equals(new TreeSet<>(Arrays.asList(FACE))) ? 1 : 0, 1);
        for (Class<?> c : OldNews.class.getDeclaredClasses()) {
            for (Method m : c.getDeclaredMethods()) {
                Check.due(0, c.getName() + "." + m.getName() + " bears the name of a public one", names.contains(m.getName()) ? 1 : 0, 0);
            }
        }
    }

    private static void nothingElse() {
        Constructor<?>[] made = OldNews.class.getDeclaredConstructors();
        Check.due(0, "one constructor", made.length, 1);
        Check.due(0, "it is public", made[0].getModifiers(), Modifier.PUBLIC);
        Check.due(0, "the class is public and final", OldNews.class.getModifiers(), Modifier.PUBLIC | Modifier.FINAL);
        for (Class<?> c : OldNews.class.getDeclaredClasses()) {
            Check.due(0, c + " is private and static", c.getModifiers() & (Modifier.PRIVATE | Modifier.STATIC), Modifier.PRIVATE | Modifier.STATIC);
        }
    }
}
