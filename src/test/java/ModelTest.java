import java.lang.reflect.Method;
import java.nio.charset.StandardCharsets;
import java.util.ArrayList;
import java.util.Comparator;
import java.util.List;
import java.util.Random;

/** Runs of calls by seeds, each asked of OldNews and of the Model. */
final class ModelTest {
    private static final int RUNS = 1500, CALLS = 512;
    private static final int[] WILD = {Integer.MIN_VALUE, Integer.MAX_VALUE, -1000000, -2, -1, 100000, 65536};

    private final Random dice;
    private final OldNews x = new OldNews();
    private final Model model = new Model();
    private final StringBuilder told = new StringBuilder();
    private int left = CALLS;

    private ModelTest(long seed) {
        dice = new Random(seed);
    }

    static void run() throws Exception {
        List<Method> calls = new ArrayList<>();
        for (Method m : OldNews.class.getDeclaredMethods()) {
            if (java.lang.reflect.Modifier.isPublic(m.getModifiers())) {
                calls.add(m);
            }
        }
        calls.sort(Comparator.comparing(Method::getName));
        for (int seed = 0; seed < RUNS; seed++) {
            if (!new ModelTest(seed).compare(calls)) {
                return;
            }
        }
    }

    private boolean compare(List<Method> calls) throws Exception {
        while (left > 0) {
            boolean same = dice.nextInt(40) == 0 || model.s == null && dice.nextInt(4) > 0
                ? landText() : call(calls.get(dice.nextInt(calls.size())));
            if (!same) {
                return false;
            }
        }
        return true;
    }

    private boolean call(Method m) throws Exception {
        // The tape is fed whole texts elsewhere; bytes by chance would spoil most of them.
        if (m.getName().equals("feed") && dice.nextInt(10) > 0) {
            return true;
        }
        Class<?>[] kinds = m.getParameterTypes();
        Object[] args = new Object[kinds.length];
        boolean careful = dice.nextInt(8) > 0;
        for (int i = 0; i < args.length; i++) {
            int v = careful ? careful(m.getName(), i) : dice.nextInt(3) == 0 ? wild() : dice.nextInt(70) - 3;
            args[i] = kinds[i] == long.class ? (Object) dice.nextLong() : (Object) v;
        }
        return ask(m, args);
    }

    private int wild() {
        return WILD[dice.nextInt(WILD.length)];
    }

    private int careful(String name, int i) {
        int keeper = dice.nextInt(6), piece = dice.nextInt(4), year = dice.nextInt(30);
        int[] args;
        switch (name) {
            case "row": args = new int[] {dice.nextInt(3), dice.nextInt(2), 4 + dice.nextInt(8)}; break;
            case "set": args = new int[] {dice.nextInt(3), dice.nextInt(8), dice.nextInt(4) == 0 ? dice.nextInt() : dice.nextInt(12) - 1}; break;
            case "copy": args = new int[] {dice.nextInt(3), dice.nextInt(6), dice.nextInt(3), dice.nextInt(6), dice.nextInt(6)}; break;
            case "drop": args = new int[] {dice.nextInt(12)}; break;
            case "go": args = new int[] {1 + dice.nextInt(dice.nextInt(5) == 0 ? 60 : 4), 1 + dice.nextInt(999999)}; break;
            case "tell": args = new int[] {keeper, piece, dice.nextInt(6)}; break;
            case "keeper": args = new int[] {keeper, dice.nextInt(2) * 10 + dice.nextInt(3)}; break;
            case "piece": args = new int[] {piece, dice.nextInt(5)}; break;
            case "alone": args = new int[] {year, 1 + dice.nextInt(9), dice.nextInt(2)}; break;
            case "two": args = new int[] {year, dice.nextInt(101), dice.nextInt(2)}; break;
            case "think": args = new int[] {dice.nextInt(1001), dice.nextInt(1001), dice.nextInt(8)}; break;
            case "lostUse": args = new int[] {piece, year, year + dice.nextInt(20)}; break;
            case "silence": args = new int[] {keeper, dice.nextInt(6), piece, year, dice.nextInt(2)}; break;
            case "corner": args = new int[] {keeper, piece, year, dice.nextInt(7) - 1}; break;
            case "make": args = new int[] {dice.nextInt(2000), dice.nextInt(1001), dice.nextInt(3000) - 1}; break;
            case "fit": args = new int[] {dice.nextInt(3), dice.nextInt(5) - 1}; break;
            case "image": case "restore": case "laws": args = new int[] {dice.nextInt(2)}; break;
            case "as": args = new int[] {keeper, dice.nextInt(6)}; break;
            case "ask": args = new int[] {keeper, dice.nextInt(2)}; break;
            default: args = new int[] {dice.nextInt(9), 1 + dice.nextInt(8)};
        }
        return args[i];
    }

    private boolean ask(Method m, Object... args) throws Exception {
        left--;
        Method of = Model.class.getDeclaredMethod(m.getName(), m.getParameterTypes());
        Object want = of.invoke(model, args);
        Object got;
        try {
            got = m.invoke(x, args);
        } catch (java.lang.reflect.InvocationTargetException e) {
            got = "thrown: " + e.getCause();
        }
        told.append(m.getName()).append(java.util.Arrays.toString(args)).append(" -> ").append(got).append('\n');
        Check.due(0, m.getName(), got.equals(want) ? 1 : 0, 1);
        if (!got.equals(want)) {
            System.out.println(told + "due was " + want);
        }
        return got.equals(want);
    }

    private boolean landText() throws Exception {
        byte[] text = text().getBytes(StandardCharsets.ISO_8859_1);
        told.append(new String(text, StandardCharsets.ISO_8859_1)).append('\n');
        Method feed = OldNews.class.getMethod("feed", long.class, int.class);
        for (int i = 0; i < text.length && left > 1; i += 8) {
            int n = Math.min(8, text.length - i);
            long w = dice.nextLong();
            for (int j = 0; j < n; j++) {
                w = w << 8 | text[i + j] & 255;
            }
            if (!ask(feed, w, n)) {
                return false;
            }
        }
        return ask(OldNews.class.getMethod("land")) && ask(OldNews.class.getMethod("fault"));
    }

    private String text() {
        StringBuilder b = new StringBuilder();
        b.append("law ").append(dice.nextBoolean() ? "old" : "fresh").append(gap()).append(rare(1 + dice.nextInt(12), 62)).append(';');
        int age = dice.nextInt(3);
        for (int i = few(9); i > 0; i--) {
            b.append("worth ").append(rare(age, 62)).append(' ').append(dice.nextInt(i % 2 == 0 ? 10000 : 1500)).append(gap()).append(';');
            age += 1 + dice.nextInt(5);
        }
        b.append("chest ").append(dice.nextInt(3) == 0 ? 0 : dice.nextInt(505)).append(' ').append(rare(dice.nextInt(3), 22));
        b.append(' ').append(rare(dice.nextInt(20), 1002)).append(';').append(gap());
        int keepers = few(7);
        for (int k = 0; k < keepers; k++) {
            b.append("keeper ").append(Model.WAYS.get(dice.nextInt(60) == 0 ? 0 : 1 + dice.nextInt(5)));
            b.append(gap()).append(rare(dice.nextInt(9), 62)).append(' ').append(rare(1 + dice.nextInt(3), 11)).append(';');
        }
        for (int p = dice.nextInt(dice.nextInt(20) == 0 ? 10 : 5); p > 0; p--) {
            b.append("news ").append(rare(dice.nextInt(50), 1001));
            for (int j = dice.nextInt(6); j > 0 && keepers > 0; j--) {
                b.append(' ').append(dice.nextInt(dice.nextInt(60) == 0 ? 7 : keepers));
            }
            b.append(gap()).append(";");
        }
        return spoiled(b);
    }

    private int few(int most) {
        int n = dice.nextInt(40) == 0 ? 0 : 1 + dice.nextInt(Math.min(most, 4));
        return dice.nextInt(6) == 0 ? most - dice.nextInt(2) : n;
    }

    private int rare(int usual, int below) {
        return dice.nextInt(60) == 0 ? dice.nextInt(below) : usual;
    }

    private String gap() {
        return new String[] {" ", " ", "", "\n", "  \n "}[dice.nextInt(5)];
    }

    private String spoiled(StringBuilder b) {
        if (dice.nextInt(5) == 0) {
            char[] signs = {' ', ';', '0', '9', 'a', 'A', '\t', '#', (char) 0, (char) 200};
            int at = dice.nextInt(b.length());
            switch (dice.nextInt(3)) {
                case 0: b.setLength(at); break;
                case 1: b.setCharAt(at, signs[dice.nextInt(signs.length)]); break;
                default: b.insert(at, signs[dice.nextInt(signs.length)]);
            }
        }
        return b.toString();
    }
}
