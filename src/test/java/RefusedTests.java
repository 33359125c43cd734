import java.util.List;
import java.util.function.Supplier;

/**
 * What is refused, or found, changes nothing but status(): each such call is asked of a scene, and all that is seen of the
 * scene later compared with what is seen of one that was not asked. Where two refusals fit, the first is due.
 */
final class RefusedTests {
    private static final int BAD = OldNews.BAD, STATE = OldNews.STATE, FULL = OldNews.FULL;
    private static final int NULL = -1000011, PLACE = -1000012, KIND = -1000013, SIZE = -1000014, STORE = -1000015;
    private static final int MIN = Integer.MIN_VALUE, MAX = Integer.MAX_VALUE;

    /** A call of an object, named by its arguments. */
    private interface Call {
        int of(OldNews x, int[] a);
    }

    private RefusedTests() {
    }

    static void run() {
        Scene.isAsTold();
        rows();
        tape();
        years();
        tellingAndLooking();
        foretold();
        silenceAndCorner();
        makeAndFit();
        images();
        asked();
        withNoLand();
        fullTape();
    }

    private static void refused(int promise, String name, int want, Call call, int[]... all) {
        refusedIn(Scene::told, promise, name, want, call, all);
    }

    private static void refusedIn(Supplier<OldNews> scene, int promise, String name, int want, Call call, int[]... all) {
        List<String> left = Scene.look(scene.get());
        for (int[] a : all) {
            String told = name + java.util.Arrays.toString(a);
            OldNews x = scene.get();
            Check.due(promise, told, call.of(x, a), want);
            Check.due(promise, told + " again", call.of(x, a), want);
            List<String> seen = Scene.look(x);
            boolean isFound = want <= NULL && want >= STORE;
            if (isFound) {
                Check.due(31, told, seen.get(0).equals("status: " + (-1000010 - want)) ? 1 : 0, 1);
            }
            Scene.isAsLeft(promise, told, seen, left, isFound ? new String[] {"status"} : new String[0]);
        }
    }

    private static int[] of(int... a) {
        return a;
    }

    private static void rows() {
        Call row = (x, a) -> x.row(a[0], a[1], a[2]);
        refused(2, "row", BAD, row, of(-1, 0, 1), of(8, 0, 1), of(0, -1, 1), of(0, 3, 1), of(0, 0, 41), of(0, 2, MAX), of(MIN, 1, 1));
        refused(2, "row", SIZE, row, of(0, 0, -1), of(2, 1, MIN), of(3, 0, -1), of(5, 2, -41));
        refused(2, "BAD ahead of SIZE: row", BAD, row, of(8, 0, -1), of(-1, 0, -1), of(0, 3, -1), of(0, -1, -1));
        Call set = (x, a) -> x.set(a[0], a[1], 99);
        refused(3, "set", BAD, set, of(-1, 0), of(8, 0), of(MAX, 0));
        refused(3, "set", NULL, set, of(3, 0), of(7, 6));
        refused(3, "set", PLACE, set, of(0, -1), of(0, 7), of(1, 6), of(2, 40), of(5, 0), of(0, MAX), of(0, MIN));
        refused(3, "BAD ahead of PLACE: set", BAD, set, of(8, -1), of(-1, 40));
        refused(3, "NULL ahead of PLACE: set", NULL, set, of(3, -1), of(4, 40));
        Call drop = (x, a) -> x.drop(a[0]);
        refused(5, "drop", BAD, drop, of(-1), of(8), of(MIN));
        refused(5, "drop", NULL, drop, of(3), of(7));
        copies();
    }

    private static void copies() {
        Call copy = (x, a) -> x.copy(a[0], a[1], a[2], a[3], a[4]);
        refused(4, "copy", BAD, copy, of(-1, 0, 0, 0, 1), of(8, 0, 0, 0, 1), of(0, 0, -1, 0, 1), of(0, 0, 8, 0, 1));
        refused(4, "copy", NULL, copy, of(3, 0, 0, 0, 1), of(0, 0, 3, 0, 1), of(3, 0, 4, 0, 0), of(3, 0, 3, 0, 0));
        refused(4, "copy", STORE, copy, of(0, 0, 1, 0, 1), of(1, 0, 2, 0, 1), of(2, 0, 0, 0, 1), of(5, 0, 1, 0, 0));
        refused(4, "copy", PLACE, copy, of(0, -1, 0, 0, 1), of(0, 0, 0, -1, 1), of(0, 2, 0, 1, -1), of(0, 1, 0, 0, 7),
            of(0, 0, 0, 1, 7), of(2, 35, 2, 0, 6), of(2, 0, 2, 35, 6), of(0, 7, 0, 0, 1), of(0, 0, 0, 7, 1), of(0, 8, 0, 0, 0),
            of(0, 0, 0, 8, 0), of(0, 0, 5, 0, 1), of(5, 0, 0, 0, 1));
        refused(4, "copy that wraps around", PLACE, copy, of(0, MAX, 0, 0, 1), of(0, 0, 0, MAX, 1), of(0, 1, 0, 0, MAX),
            of(0, 0, 0, 1, MAX), of(0, MAX, 0, MAX, MAX), of(0, MIN, 0, 0, MIN), of(0, 0, 0, 0, MIN));
        refused(4, "BAD ahead of NULL: copy", BAD, copy, of(3, 0, 8, 0, 1), of(-1, 0, 3, 0, 1));
        refused(4, "BAD ahead of PLACE: copy", BAD, copy, of(0, 9, 8, 0, 1), of(-1, 0, 0, 0, -1));
        refused(4, "NULL ahead of PLACE: copy", NULL, copy, of(3, -1, 0, 0, 1), of(0, 9, 3, 0, 1), of(3, 0, 0, 0, -1));
        refused(4, "STORE ahead of PLACE: copy", STORE, copy, of(0, -1, 1, 0, 1), of(0, 0, 1, 9, 1), of(0, 0, 1, 0, -1));
    }

    private static void tape() {
        refused(6, "feed", BAD, (x, a) -> x.feed(' ', a[0]), of(0), of(9), of(-1), of(MAX), of(MIN));
    }

    private static void years() {
        refused(9, "value", BAD, (x, a) -> x.value(a[0]), of(-1), of(1000), of(MAX), of(MIN));
        refused(10, "go", BAD, (x, a) -> x.go(a[0], a[1]), of(0, 1), of(61, 1), of(-1, 1), of(1, 0), of(1, 1000000), of(1, -1),
            of(MAX, 1), of(1, MIN));
    }

    private static void tellingAndLooking() {
        Call tell = (x, a) -> x.tell(a[0], a[1], a[2]);
        refused(11, "tell", BAD, tell, of(-1, 0, 2), of(3, 0, 2), of(0, -1, 2), of(0, 3, 2), of(0, 0, -1), of(0, 0, 3));
        refused(11, "tell, alike", BAD, tell, of(0, 0, 0), of(2, 0, 2));
        refused(11, "tell", STATE, tell, of(2, 0, 0), of(0, 1, 1), of(1, 2, 0));
        refused(11, "tell", FULL, tell, of(0, 0, 1));
        refused(11, "BAD ahead of STATE: tell", BAD, tell, of(2, 0, 3), of(2, 0, 2), of(0, 2, -1));
        refused(11, "BAD ahead of FULL: tell", BAD, tell, of(1, 0, 1), of(3, 0, 1));
        refused(11, "STATE ahead of FULL: tell", STATE, tell, of(2, 0, 1));
        refused(12, "keeper", BAD, (x, a) -> x.keeper(a[0], a[1]), of(-1, 0), of(3, 0), of(0, -1), of(0, 3), of(0, 9), of(0, 13),
            of(0, MAX), of(0, MIN), of(3, 13));
        refused(13, "piece", BAD, (x, a) -> x.piece(a[0], a[1]), of(-1, 0), of(3, 0), of(0, -1), of(0, 5), of(3, 5));
    }

    private static void foretold() {
        refused(14, "alone", BAD, (x, a) -> x.alone(a[0], a[1], a[2]), of(-1, 1, 0), of(13, 1, 0), of(0, 0, 0), of(0, 10, 0),
            of(0, 1, -1), of(0, 1, 2), of(MIN, MIN, MIN));
        refused(15, "best", BAD, (x, a) -> x.best(a[0]), of(-1), of(13), of(MAX));
        refused(16, "two", BAD, (x, a) -> x.two(a[0], a[1], a[2]), of(-1, 0, 0), of(13, 0, 0), of(0, -1, 0), of(0, 101, 0),
            of(0, 0, -1), of(0, 0, 2));
        refused(17, "think", BAD, (x, a) -> x.think(a[0], a[1], a[2]), of(-1, 0, 0), of(1001, 0, 0), of(0, -1, 0), of(0, 1001, 0),
            of(0, 0, -1), of(0, 0, 61));
        refused(18, "lostUse", BAD, (x, a) -> x.lostUse(a[0], a[1], a[2]), of(-1, 0, 0), of(3, 0, 0), of(0, -1, 0), of(0, 0, -1),
            of(0, 1, 0), of(0, 0, 1000), of(0, 1000, 1000), of(0, 999, 998));
        refused(23, "laws", BAD, (x, a) -> x.laws(a[0]), of(-1), of(2));
    }

    private static void silenceAndCorner() {
        Call silence = (x, a) -> x.silence(a[0], a[1], a[2], a[3], a[4]);
        refused(19, "silence", BAD, silence, of(-1, 1, 0, 0, 0), of(3, 1, 0, 0, 0), of(0, -1, 0, 0, 0), of(0, 3, 0, 0, 0),
            of(0, 1, -1, 0, 0), of(0, 1, 3, 0, 0), of(0, 1, 0, -1, 0), of(0, 1, 0, 1000, 0), of(0, 1, 0, 0, -1), of(0, 1, 0, 0, 2));
        refused(19, "silence, alike", BAD, silence, of(0, 0, 0, 0, 0), of(1, 1, 0, 0, 1));
        refused(19, "silence", STATE, silence, of(0, 2, 0, 0, 0), of(2, 0, 0, 0, 1), of(0, 1, 2, 0, 0));
        refused(19, "BAD ahead of STATE: silence", BAD, silence, of(2, 2, 0, 0, 0), of(2, 3, 0, 0, 0), of(0, 2, 0, 1000, 0),
            of(0, 2, 0, -1, 0), of(2, 0, 0, 0, 2), of(2, 0, 0, 0, -1));
        Call corner = (x, a) -> x.corner(a[0], a[1], a[2], a[3]);
        refused(20, "corner", BAD, corner, of(-1, 0, 0, 0), of(3, 0, 0, 0), of(0, -1, 0, 0), of(0, 3, 0, 0), of(0, 0, -1, 0),
            of(0, 0, 1000, 0), of(0, 0, 0, -2), of(0, 0, 0, MIN));
        refused(20, "corner", STATE, corner, of(2, 0, 0, -1), of(2, 0, 0, 9), of(0, 2, 0, 0));
        refused(20, "BAD ahead of STATE: corner", BAD, corner, of(2, 0, 0, -2), of(2, 0, 1000, 0), of(2, 0, -1, 0));
    }

    private static void makeAndFit() {
        refused(21, "make", BAD, (x, a) -> x.make(a[0], a[1], a[2]), of(-1, 0, 0), of(100000, 0, 0), of(0, -1, 0), of(0, 1001, 0),
            of(0, 0, -2), of(0, 0, 100000));
        Call fit = (x, a) -> x.fit(a[0], a[1]);
        refused(22, "fit", BAD, fit, of(-1, 0), of(8, 0), of(0, -2), of(0, MIN));
        refused(22, "fit", NULL, fit, of(3, 0), of(7, -1));
        refused(22, "fit", PLACE, fit, of(5, 0), of(5, -1));
        refused(22, "BAD ahead of NULL: fit", BAD, fit, of(3, -2));
        refused(22, "BAD ahead of PLACE: fit", BAD, fit, of(5, -2));
        Supplier<OldNews> late = () -> {
            OldNews x = Scene.told();
            x.row(6, 2, 3);
            x.set(6, 2, 13);
            x.row(7, 2, 2);
            x.set(7, 0, 13);
            x.as(0, 5);
            return x;
        };
        refusedIn(late, 22, "fit of a year behind LAST", BAD, fit, of(6, -1), of(6, 0), of(6, 64));
        refusedIn(late, 22, "PLACE ahead of the late BAD: fit", PLACE, fit, of(7, -1));
    }

    private static void images() {
        refused(24, "image", BAD, (x, a) -> x.image(a[0]), of(-1), of(2), of(MAX));
        refused(25, "restore", BAD, (x, a) -> x.restore(a[0]), of(-1), of(2), of(MIN));
        refusedIn(Scene::withOneImage, 25, "restore of the one that was not kept", STATE, (x, a) -> x.restore(a[0]), of(0));
    }

    private static void asked() {
        refused(26, "kind", BAD, (x, a) -> x.kind(a[0]), of(-1), of(3), of(MAX));
        Call as = (x, a) -> x.as(a[0], a[1]);
        refused(27, "as", BAD, as, of(-1, 0), of(3, 0), of(0, -1), of(0, 6));
        refused(27, "as", KIND, as, of(0, 1), of(0, 4), of(1, 3), of(2, 2), of(2, 5));
        refused(27, "BAD ahead of KIND: as", BAD, as, of(3, 1), of(-1, 5));
        refused(28, "ask", BAD, (x, a) -> x.ask(a[0], a[1]), of(-1, 0), of(3, 0), of(0, -1), of(0, 2), of(MIN, MAX));
        refused(29, "trace", OldNews.NONE, (x, a) -> x.trace(a[0]), of(-1), of(6), of(15), of(16), of(MAX), of(MIN));
        refused(30, "count", BAD, (x, a) -> x.count(a[0]), of(-1), of(8), of(MIN));
    }

    private static void bare(int promise, String name, int want, Call call, int[]... all) {
        refusedIn(Scene::bare, promise, name + " with no land", want, call, all);
    }

    private static void withNoLand() {
        bare(9, "value", STATE, (x, a) -> x.value(a[0]), of(0), of(999), of(-1), of(1000));
        bare(10, "go", STATE, (x, a) -> x.go(a[0], a[1]), of(1, 1), of(0, 1), of(61, 1), of(1, 0), of(1, 1000000));
        bare(11, "tell", BAD, (x, a) -> x.tell(a[0], a[1], a[2]), of(0, 0, 1), of(0, 0, 0));
        bare(12, "keeper", BAD, (x, a) -> x.keeper(a[0], a[1]), of(0, 0), of(0, 10));
        bare(13, "piece", BAD, (x, a) -> x.piece(a[0], a[1]), of(0, 0), of(0, 4));
        bare(14, "alone", STATE, (x, a) -> x.alone(a[0], a[1], a[2]), of(0, 1, 0), of(-1, 1, 0), of(0, 0, 0), of(0, 10, 0), of(0, 1, 2));
        bare(15, "best", STATE, (x, a) -> x.best(a[0]), of(0), of(-1), of(61));
        bare(16, "two", STATE, (x, a) -> x.two(a[0], a[1], a[2]), of(0, 0, 0), of(-1, 0, 0), of(0, 101, 0), of(0, 0, 2));
        bare(17, "think", BAD, (x, a) -> x.think(a[0], a[1], a[2]), of(-1, 0, 0), of(0, 0, 61));
        bare(18, "lostUse", BAD, (x, a) -> x.lostUse(a[0], a[1], a[2]), of(0, 0, 0));
        bare(19, "silence", BAD, (x, a) -> x.silence(a[0], a[1], a[2], a[3], a[4]), of(0, 1, 0, 0, 0));
        bare(20, "corner", BAD, (x, a) -> x.corner(a[0], a[1], a[2], a[3]), of(0, 0, 0, -1));
        bare(21, "make", STATE, (x, a) -> x.make(a[0], a[1], a[2]), of(0, 0, 0), of(0, 0, -1), of(-1, 0, 0), of(0, 1001, 0), of(0, 0, -2));
        bare(22, "fit", STATE, (x, a) -> x.fit(a[0], a[1]), of(0, 0), of(8, 0), of(0, -2), of(3, 0), of(5, 0), of(3, -2));
        bare(23, "laws", STATE, (x, a) -> x.laws(a[0]), of(0), of(1), of(2), of(-1));
        bare(24, "image", STATE, (x, a) -> x.image(a[0]), of(0), of(1));
        bare(24, "BAD ahead of STATE: image", BAD, (x, a) -> x.image(a[0]), of(-1), of(2));
        bare(25, "restore", STATE, (x, a) -> x.restore(a[0]), of(0), of(1));
        bare(25, "BAD ahead of STATE: restore", BAD, (x, a) -> x.restore(a[0]), of(-1), of(2));
        bare(26, "kind", BAD, (x, a) -> x.kind(a[0]), of(0));
        bare(27, "as", BAD, (x, a) -> x.as(a[0], a[1]), of(0, 0), of(0, 1));
        bare(28, "ask", BAD, (x, a) -> x.ask(a[0], a[1]), of(0, 0), of(0, 1));
    }

    /** A tape with room for one byte more: of two that do not fit, none comes. */
    private static void fullTape() {
        String text = "law old 60;worth 0 7;chest 0 0 0;keeper now 0 1;";
        OldNews x = Scene.told();
        Check.feed(x, "chest 0 0 0;keeper now 0 1;" + " ".repeat(499 - text.length()));
        Check.due(6, "a byte less than full", x.count(5), 499);
        Check.due(6, "two more", x.feed(' ' << 8 | ';', 2), FULL);
        Check.due(6, "eight more", x.feed(-1, 8), FULL);
        Check.due(6, "BAD ahead of FULL", x.feed(-1, 9), BAD);
        Check.due(6, "BAD ahead of FULL", x.feed(-1, 0), BAD);
        Check.due(6, "none came", x.count(5), 499);
        Check.due(31, "FULL does not count", x.status(), Scene.STATUS);
        Check.due(6, "one more", x.feed('\n', 1), 500);
        Check.due(6, "one beyond", x.feed(';', 1), FULL);
        Check.due(6, "full", x.count(5), 500);
        Check.due(6, "what was there is read", x.land(), 1);
    }
}
