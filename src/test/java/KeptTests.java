import java.util.List;

/** What is not refused changes what it is told to change, and leaves all else: FORETOLD, asks and looks change nothing. */
final class KeptTests {
    /** A call of an object. */
    private interface Call {
        int of(OldNews x);
    }

    private static final List<String> LEFT = Scene.look(Scene.told());
    private static final String[] LAND = {"now", "two years more"};

    private KeptTests() {
    }

    static void run() {
        looks();
        foretold();
        asked();
        rows();
        lands();
        images();
    }

    private static void kept(int promise, String told, int answer, Call call, String... changed) {
        OldNews x = Scene.told();
        Check.due(promise, told, call.of(x), answer);
        Scene.isAsLeft(promise, told, Scene.look(x), LEFT, changed);
    }

    private static void looks() {
        kept(8, "fault", 2, OldNews::fault);
        kept(9, "value", 350, x -> x.value(0));
        kept(12, "keeper", 9, x -> x.keeper(1, 10));
        kept(13, "piece", 0, x -> x.piece(1, 3));
        kept(26, "kind", 4, x -> x.kind(1));
        kept(29, "trace", 13, x -> x.trace(0));
        kept(30, "count", 12, x -> x.count(6));
        kept(31, "status", 3, OldNews::status);
    }

    private static void foretold() {
        kept(14, "alone", 350, x -> x.alone(0, 1, 0));
        kept(14, "alone", 12, x -> x.alone(12, 9, 1));
        kept(15, "best", 1, x -> x.best(12));
        kept(16, "two", 50, x -> x.two(12, 100, 1));
        kept(17, "think", 419, x -> x.think(500, 100, 3));
        kept(18, "lostUse", 40 * 7, x -> x.lostUse(0, 3, 10));
        kept(19, "silence", 175, x -> x.silence(0, 1, 0, 0, 0));
        kept(20, "corner", 175 * 105 / 100, x -> x.corner(0, 0, 0, -1));
        kept(20, "corner", 1, x -> x.corner(0, 0, 0, 0));
        kept(21, "make", 1, x -> x.make(99, 1000, 0));
        kept(21, "make", 1, x -> x.make(99, 1000, -1));
        kept(22, "fit", 0, x -> x.fit(1, -1), "status: 0");
        kept(22, "fit", OldNews.NONE, x -> x.fit(1, 0), "status: 0");
        OldNews x = Scene.told();
        int old = x.laws(0), fresh = x.laws(1);
        kept(23, "laws", old, y -> y.laws(0));
        kept(23, "laws", fresh, y -> y.laws(1));
    }

    private static void asked() {
        kept(27, "as", 0, x -> x.as(0, 0), "status: 0");
        kept(27, "as", 1, x -> x.as(1, 4), "status: 0");
        kept(28, "ask", 60, x -> x.ask(0, 1), "trace");
    }

    private static void rows() {
        kept(2, "row", 2, x -> x.row(3, 0, 2), "status: 0", "rows: 5", "items of row 3: 2");
        kept(2, "row", 0, x -> x.row(5, 1, 0), "status: 0");
        kept(3, "set", 5, x -> x.set(2, 20, 5), "status: 0");
        kept(3, "set", 5, x -> x.set(0, 6, 5), "status: 0", "the last item of row 0");
        kept(4, "copy", 6, x -> x.copy(2, 0, 2, 12, 6), "status: 0");
        kept(5, "drop", 0, x -> x.drop(5), "status: 0", "rows: 3", "items of row 5: -1000011");
        kept(5, "drop", 6, x -> x.drop(1), "status: 0", "rows: 3", "first items of row 1", "the lane of row 1", "items of row 1: -1000011");
        kept(6, "feed", 29, x -> x.feed(0x2020202020202020L, 8), "bytes: 29");
    }

    private static void lands() {
        kept(10, "go", 3, x -> x.go(1, 5), LAND);
        kept(11, "tell", 1, x -> x.tell(0, 0, 2), "now, keeper 2 1: ", "now, keeper 2 10: 1", "now, piece 0 1: 3", "now, piece 0 4: ",
            "two years more");
    }

    private static void images() {
        kept(24, "image", 1, x -> x.image(0), "restored 0");
        kept(24, "image", 1, x -> x.image(1), "restored 1");
        kept(25, "restore", 1, x -> x.restore(0), LAND);
        kept(25, "restore", 1, x -> x.restore(1), LAND);
    }
}
