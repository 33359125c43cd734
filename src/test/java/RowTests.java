/** Promises 1 to 5: a new object, and the rows. An item is read by a fit: just its year is the one that fits. */
final class RowTests {
    private static final int NULL = -1000011, PLACE = -1000012, SIZE = -1000014, STORE = -1000015;

    private RowTests() {
    }

    static void run() {
        newObject();
        row();
        rowIsLaidAnew();
        set();
        copy();
        copyAsTheyWere();
        drop();
    }

    /** Keepers by age, of whom a row of just these years fits all: so a row is read. */
    static OldNews agesOf(int... ages) {
        StringBuilder text = new StringBuilder("law old 60;worth 0 1;chest 0 0 0;");
        for (int age : ages) {
            text.append("keeper age ").append(age).append(" 1;");
        }
        return Check.on(text.toString());
    }

    static void fill(OldNews x, int row, int... items) {
        x.row(row, 2, items.length);
        for (int i = 0; i < items.length; i++) {
            x.set(row, i, items[i]);
        }
    }

    private static void newObject() {
        OldNews x = new OldNews();
        for (int what = 0; what <= 7; what++) {
            Check.due(1, "count " + what, x.count(what), 0);
        }
        Check.due(1, "status", x.status(), 0);
        Check.due(1, "fault", x.fault(), 0);
        Check.due(1, "trace", x.trace(0), OldNews.NONE);
        Check.due(1, "value", x.value(0), OldNews.STATE);
        Check.due(1, "keeper", x.keeper(0, 0), OldNews.BAD);
        Check.due(1, "image", x.image(0), OldNews.STATE);
        Check.due(1, "restore", x.restore(1), OldNews.STATE);
        for (int row = 0; row < 8; row++) {
            Check.due(1, "drop " + row, x.drop(row), NULL);
        }
    }

    private static void row() {
        OldNews x = new OldNews();
        Check.due(2, "row of none", x.row(0, 0, 0), 0);
        Check.due(2, "row of 40", x.row(7, 2, 40), 40);
        Check.due(2, "row of shorts", x.row(3, 1, 5), 5);
        Check.due(2, "rows", x.count(0), 3);
        Check.due(2, "row 8", x.row(8, 0, 1), OldNews.BAD);
        Check.due(2, "row below", x.row(-1, 0, 1), OldNews.BAD);
        Check.due(2, "lane 3", x.row(1, 3, 1), OldNews.BAD);
        Check.due(2, "lane below", x.row(1, -1, 1), OldNews.BAD);
        Check.due(2, "41 items", x.row(1, 0, 41), OldNews.BAD);
        Check.due(2, "most items", x.row(1, 0, Integer.MAX_VALUE), OldNews.BAD);
        Check.due(2, "items below none", x.row(3, 0, -1), SIZE);
        Check.due(2, "items far below none", x.row(1, 0, Integer.MIN_VALUE), SIZE);
        Check.due(2, "BAD is ahead of SIZE", x.row(1, 3, -1), OldNews.BAD);
        Check.due(2, "rows stay", x.count(0), 3);
        Check.due(2, "a row stays", x.set(3, 4, 300), 300);
    }

    private static void rowIsLaidAnew() {
        OldNews x = agesOf(7, 0);
        fill(x, 0, 7, 9, 9);
        Check.due(2, "9 is not 0", x.fit(0, 0), OldNews.NONE);
        Check.due(2, "laid anew", x.row(0, 2, 2), 2);
        Check.due(2, "items are 0 at first", x.set(0, 0, 7), 7);
        Check.due(2, "items are 0 at first", x.fit(0, 0), 3);
        Check.due(2, "of another lane", x.row(0, 0, 40), 40);
        Check.due(2, "of another lane", x.set(0, 39, 300), 44);
        x.row(1, 2, 2);
        x.set(1, 0, 7);
        Check.due(2, "rows lie apart", x.fit(1, 0), 3);
    }

    private static void set() {
        OldNews x = new OldNews();
        x.row(0, 0, 3);
        x.row(1, 1, 3);
        x.row(2, 2, 3);
        Check.due(3, "byte 127", x.set(0, 0, 127), 127);
        Check.due(3, "byte 128", x.set(0, 2, 128), -128);
        Check.due(3, "byte 511", x.set(0, 1, 511), -1);
        Check.due(3, "byte -129", x.set(0, 1, -129), 127);
        Check.due(3, "short 32767", x.set(1, 0, 32767), 32767);
        Check.due(3, "short 32768", x.set(1, 2, 32768), -32768);
        Check.due(3, "short 65537", x.set(1, 1, 65537), 1);
        Check.due(3, "int", x.set(2, 0, Integer.MIN_VALUE), Integer.MIN_VALUE);
        Check.due(3, "int", x.set(2, 2, 65537), 65537);
        Check.due(3, "place 3", x.set(0, 3, 1), PLACE);
        Check.due(3, "place below", x.set(0, -1, 1), PLACE);
        Check.due(3, "a far place", x.set(1, Integer.MAX_VALUE, 1), PLACE);
        Check.due(3, "missing", x.set(3, 0, 1), NULL);
        Check.due(3, "row 8", x.set(8, 0, 1), OldNews.BAD);
        Check.due(3, "row below", x.set(-1, 0, 1), OldNews.BAD);
        x.row(4, 0, 0);
        Check.due(3, "a row of none", x.set(4, 0, 1), PLACE);
        OldNews y = agesOf(5);
        fill(y, 0, 4);
        Check.due(3, "not yet", y.fit(0, 0), OldNews.NONE);
        y.set(0, 0, 5);
        Check.due(3, "it is kept", y.fit(0, 0), 1);
    }

    private static void copy() {
        OldNews x = new OldNews();
        x.row(0, 0, 5);
        x.row(1, 0, 3);
        x.row(2, 1, 5);
        Check.due(4, "all of b", x.copy(0, 2, 1, 0, 3), 3);
        Check.due(4, "none at the ends", x.copy(0, 5, 1, 3, 0), 0);
        Check.due(4, "none behind an end", x.copy(0, 6, 1, 3, 0), PLACE);
        Check.due(4, "none behind the other end", x.copy(0, 5, 1, 4, 0), PLACE);
        Check.due(4, "beyond a", x.copy(1, 1, 0, 0, 3), PLACE);
        Check.due(4, "beyond b", x.copy(0, 0, 1, 1, 3), PLACE);
        Check.due(4, "i below", x.copy(0, -1, 1, 0, 1), PLACE);
        Check.due(4, "j below", x.copy(0, 0, 1, -1, 1), PLACE);
        Check.due(4, "n below", x.copy(0, 2, 1, 2, -1), PLACE);
        Check.due(4, "far i and n", x.copy(0, Integer.MAX_VALUE, 1, 0, Integer.MAX_VALUE), PLACE);
        Check.due(4, "far j", x.copy(0, 0, 1, Integer.MAX_VALUE, 1), PLACE);
        Check.due(4, "least n", x.copy(0, 0, 1, 0, Integer.MIN_VALUE), PLACE);
        Check.due(4, "two lanes", x.copy(0, 0, 2, 0, 1), STORE);
        Check.due(4, "STORE is ahead of PLACE", x.copy(0, -1, 2, 0, 1), STORE);
        Check.due(4, "a is missing", x.copy(3, -1, 2, 0, 1), NULL);
        Check.due(4, "b is missing", x.copy(0, -1, 3, 0, 1), NULL);
        Check.due(4, "row 8", x.copy(3, 0, 8, 0, 1), OldNews.BAD);
        Check.due(4, "row below", x.copy(-1, 0, 3, 0, 1), OldNews.BAD);
    }

    private static void copyAsTheyWere() {
        OldNews x = agesOf(1, 1, 2, 3, 4, 5);
        fill(x, 0, 1, 2, 3, 4, 5, 6, 7);
        Check.due(4, "to the right", x.copy(0, 0, 0, 1, 5), 5);
        Check.due(4, "to the right", x.fit(0, 0), 63);
        fill(x, 1, 9, 1, 1, 2, 3, 4, 5);
        Check.due(4, "to the left", x.copy(1, 1, 1, 0, 6), 6);
        Check.due(4, "to the left", x.fit(1, 0), 63);
        fill(x, 2, 9, 9, 2, 3, 9, 9);
        fill(x, 3, 1, 1, 9, 9, 4, 5);
        Check.due(4, "to another", x.copy(2, 2, 3, 2, 2), 2);
        Check.due(4, "to another", x.fit(3, 0), 63);
        Check.due(4, "a stays", x.fit(2, 0), OldNews.NONE);
        Check.due(4, "found", x.copy(2, 0, 3, 1, 6), PLACE);
        Check.due(4, "what is found changes nothing", x.fit(3, 0), 63);
    }

    private static void drop() {
        OldNews x = new OldNews();
        x.row(0, 0, 17);
        x.row(7, 2, 0);
        Check.due(5, "drop", x.drop(0), 17);
        Check.due(5, "again", x.drop(0), NULL);
        Check.due(5, "rows", x.count(0), 1);
        Check.due(5, "it is missing", x.set(0, 0, 1), NULL);
        Check.due(5, "none", x.drop(7), 0);
        Check.due(5, "row 8", x.drop(8), OldNews.BAD);
        Check.due(5, "row below", x.drop(-1), OldNews.BAD);
    }
}
