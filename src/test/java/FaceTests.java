import java.lang.reflect.Constructor;
import java.lang.reflect.Field;
import java.lang.reflect.Method;
import java.lang.reflect.Modifier;
import java.nio.file.Files;
import java.nio.file.Path;
import java.util.Arrays;
import java.util.Set;
import java.util.TreeSet;
import java.util.regex.Matcher;
import java.util.regex.Pattern;

/** The face of the class, and as much of LANGUAGE.md as can be seen by its words. */
final class FaceTests {
    private static final String[] FACE = {"row III", "set III", "copy IIIII", "drop I", "feed JI", "land ", "fault ", "value I",
        "go II", "tell III", "keeper II", "piece II", "alone III", "best I", "two III", "think III", "lostUse III", "silence IIIII",
        "corner IIII", "make III", "fit II", "laws I", "image I", "restore I", "kind I", "as II", "ask II", "trace I", "count I",
        "status "};
    private static final String[] WORDS = {"throw", "throws", "try", "catch", "finally", "synchronized", "assert", "System\\.out",
        "Object", "Random", "Thread", "->", "::", "package", "static \\{", "new \\w+\\(.*\\) \\{", "\\w+Exact"};

    private FaceTests() {
    }

    static void run(String source) throws Exception {
        constants();
        methods();
        nothingElse();
        words(Files.readString(Path.of(source)));
    }

    private static void constants() throws Exception {
        Check.due(0, "NONE", OldNews.NONE, -1000000);
        Check.due(0, "BAD", OldNews.BAD, -1000001);
        Check.due(0, "STATE", OldNews.STATE, -1000002);
        Check.due(0, "FULL", OldNews.FULL, -1000003);
        Set<String> seen = new TreeSet<>();
        for (Field f : OldNews.class.getDeclaredFields()) {
            if (!Modifier.isPrivate(f.getModifiers())) {
                seen.add(f.getName() + " " + Modifier.toString(f.getModifiers()) + " " + f.getType());
            }
        }
        Set<String> due = new TreeSet<>();
        for (String name : new String[] {"NONE", "BAD", "STATE", "FULL"}) {
            due.add(name + " public static final int");
        }
        Check.due(0, "constants " + seen, seen.equals(due) ? 1 : 0, 1);
    }

    private static void methods() {
        Set<String> seen = new TreeSet<>();
        Set<String> names = new TreeSet<>();
        for (Method m : OldNews.class.getDeclaredMethods()) {
            if (!Modifier.isPrivate(m.getModifiers())) {
                StringBuilder face = new StringBuilder(m.getName()).append(' ');
                for (Class<?> c : m.getParameterTypes()) {
                    face.append(c == int.class ? "I" : c == long.class ? "J" : "?");
                }
                seen.add(face.toString());
                names.add(m.getName());
                boolean plain = m.getModifiers() == Modifier.PUBLIC && m.getReturnType() == int.class;
                Check.due(0, "public int " + face, plain ? 1 : 0, 1);
            }
        }
        Check.due(0, "methods " + seen, seen.equals(new TreeSet<>(Arrays.asList(FACE))) ? 1 : 0, 1);
        for (Class<?> c : OldNews.class.getDeclaredClasses()) {
            for (Method m : c.getDeclaredMethods()) {
                Check.due(0, c.getName() + "." + m.getName() + " bears the name of a public one", names.contains(m.getName()) ? 1 : 0, 0);
            }
        }
    }

    private static void nothingElse() {
        Constructor<?>[] made = OldNews.class.getDeclaredConstructors();
        Check.due(0, "one constructor", made.length, 1);
        Check.due(0, "it is public", made[0].getModifiers(), Modifier.PUBLIC);
        Check.due(0, "the class is public and final", OldNews.class.getModifiers(), Modifier.PUBLIC | Modifier.FINAL);
        int classes = 1;
        for (Class<?> c : OldNews.class.getDeclaredClasses()) {
            classes++;
            Check.due(0, c + " is private and static", c.getModifiers() & (Modifier.PRIVATE | Modifier.STATIC), Modifier.PRIVATE | Modifier.STATIC);
            int fields = 0;
            for (Field f : c.getDeclaredFields()) {
                fields += Modifier.isStatic(f.getModifiers()) ? 0 : 1;
                boolean isChanging = Modifier.isStatic(f.getModifiers()) && !Modifier.isFinal(f.getModifiers());
                Check.due(0, f + " is static and changes", isChanging ? 1 : 0, 0);
            }
            Check.due(0, c + " has some twenty fields", fields <= 20 ? 1 : 0, 1);
        }
        Check.due(0, "some twelve classes", classes <= 12 ? 1 : 0, 1);
    }

    private static void words(String source) {
        String code = source.replaceAll("(?s)/\\*.*?\\*/|//[^\n]*", "");
        for (String word : WORDS) {
            Matcher m = Pattern.compile(word.matches("\\w+") ? "\\b" + word + "\\b" : word).matcher(code);
            Check.due(0, "the source says " + word, m.find() ? 1 : 0, 0);
        }
        Matcher imports = Pattern.compile("(?m)^import (.*);").matcher(source);
        while (imports.find()) {
            Check.due(0, "import " + imports.group(1), imports.group(1).equals("java.util.Arrays") ? 1 : 0, 1);
        }
        int longest = 0;
        for (String method : source.split("\n    (?=\\S)|\n        (?=[^ }].*\\{\n)")) {
            longest = Math.max(longest, method.split("\n").length);
        }
        Check.due(0, "methods of some sixty lines: " + longest, longest <= 60 ? 1 : 0, 1);
        Check.due(0, "signs of 1 to 127", source.chars().allMatch(c -> c < 128) ? 1 : 0, 1);
    }
}
