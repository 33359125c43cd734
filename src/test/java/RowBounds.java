/** The bounds that promises 1 to 5 and "1 ROWS" of the terms name, from both sides. */
final class RowBounds {
    private static final int NULL = -1000011, PLACE = -1000012, SIZE = -1000014, STORE = -1000015;
    private static final int ALL = 63;

    private RowBounds() {
    }

    static void run() {
        rowsAreMissingAtFirst();
        noLandAtFirst();
        rowsAndLanes();
        noneToForty();
        itemsAreNoneAtFirst();
        inPlaceOfWhatIsThere();
        lowestBits();
        bitsAreKept();
        placesOfARow();
        copyUpToTheEnds();
        copyOfNone();
        copyOntoItself();
        copyLeavesTheRest();
        lanesOfTwo();
        dropped();
    }

    private static void rowsAreMissingAtFirst() {
        for (int row = 0; row < 8; row++) {
            OldNews x = new OldNews();
            Check.due(1, "set in row " + row, x.set(row, 0, 1), NULL);
            Check.due(1, "copy of row " + row, x.copy(row, 0, row, 0, 0), NULL);
            Check.due(1, "drop of row " + row, x.drop(row), NULL);
            Check.due(1, "no row is there", x.count(0), 0);
        }
    }

    private static void noLandAtFirst() {
        OldNews x = new OldNews();
        int[] states = {x.value(0), x.go(1, 1), x.alone(0, 1, 0), x.best(0), x.two(0, 0, 0), x.make(0, 0, 0), x.fit(0, 0), x.laws(0),
            x.image(0), x.image(1), x.restore(0), x.restore(1)};
        for (int i = 0; i < states.length; i++) {
            Check.due(1, "STATE " + i, states[i], OldNews.STATE);
        }
        int[] bad = {x.tell(0, 0, 1), x.keeper(0, 0), x.piece(0, 0), x.lostUse(0, 0, 0), x.silence(0, 1, 0, 0, 0), x.corner(0, 0, 0, 0),
            x.kind(0), x.as(0, 0), x.ask(0, 0)};
        for (int i = 0; i < bad.length; i++) {
            Check.due(1, "no such one " + i, bad[i], OldNews.BAD);
        }
        for (int what = 0; what < 8; what++) {
            Check.due(1, "count " + what, x.count(what), 0);
        }
        Check.due(1, "no bytes are on the tape", x.feed('l', 1), 1);
    }

    private static void rowsAndLanes() {
        OldNews x = new OldNews();
        for (int row = 0; row < 8; row++) {
            Check.due(2, "row " + row, x.row(row, row % 3, row), row);
            Check.due(2, "rows", x.count(0), row + 1);
        }
        Check.due(2, "row -1", x.row(-1, 0, 0), OldNews.BAD);
        Check.due(2, "row 8", x.row(8, 0, 0), OldNews.BAD);
        Check.due(2, "lane 0", x.row(0, 0, 1), 1);
        Check.due(2, "lane 0 is bytes", x.set(0, 0, 65536 + 256 + 1), 1);
        Check.due(2, "lane 1", x.row(0, 1, 1), 1);
        Check.due(2, "lane 1 is shorts", x.set(0, 0, 65536 + 256 + 1), 257);
        Check.due(2, "lane 2", x.row(0, 2, 1), 1);
        Check.due(2, "lane 2 is ints", x.set(0, 0, 65536 + 256 + 1), 65793);
        Check.due(2, "lane -1", x.row(0, -1, 1), OldNews.BAD);
        Check.due(2, "lane 3", x.row(0, 3, 1), OldNews.BAD);
    }

    private static void noneToForty() {
        for (int lane = 0; lane < 3; lane++) {
            OldNews x = new OldNews();
            Check.due(2, "-1 items", x.row(0, lane, -1), SIZE);
            Check.due(2, "41 items", x.row(0, lane, 41), OldNews.BAD);
            Check.due(2, "no row came", x.count(0), 0);
            Check.due(2, "0 items", x.row(0, lane, 0), 0);
            Check.due(2, "place 0 of none", x.set(0, 0, 1), PLACE);
            Check.due(2, "a row of none is there", x.count(0), 1);
            Check.due(2, "1 item", x.row(0, lane, 1), 1);
            Check.due(2, "40 items", x.row(0, lane, 40), 40);
            Check.due(2, "the last of 40", x.set(0, 39, 7), 7);
            Check.due(2, "behind the last of 40", x.set(0, 40, 7), PLACE);
            Check.due(2, "40 items were there", x.drop(0), 40);
        }
    }

    private static void itemsAreNoneAtFirst() {
        for (int lane = 0; lane < 3; lane++) {
            OldNews x = RowTests.agesOf(0, 0, 0, 0, 0, 0);
            x.row(1, lane, 6);
            x.row(0, lane, 40);
            for (int round = 0; round < 2; round++) {
                for (int i = 0; i <= 34; i += i == 30 ? 4 : 6) {
                    x.copy(0, i, 1, 0, 6);
                    Check.due(2, "items of lane " + lane + " from " + i + " on are 0", x.fit(1, 0), ALL);
                }
                for (int i = 0; i < 40; i++) {
                    x.set(0, i, 9);
                }
                x.copy(0, 34, 1, 0, 6);
                Check.due(2, "items that were set are not", x.fit(1, 0), OldNews.NONE);
                x.row(0, lane, 40);
            }
        }
    }

    private static void inPlaceOfWhatIsThere() {
        OldNews x = new OldNews();
        x.row(4, 0, 3);
        Check.due(2, "a longer one of ints", x.row(4, 2, 5), 5);
        Check.due(2, "its last place", x.set(4, 4, 70000), 70000);
        Check.due(2, "a shorter one of shorts", x.row(4, 1, 2), 2);
        Check.due(2, "its last place", x.set(4, 1, 70000), 4464);
        Check.due(2, "behind it", x.set(4, 2, 1), PLACE);
        Check.due(2, "one of none", x.row(4, 1, 0), 0);
        Check.due(2, "its place", x.set(4, 0, 1), PLACE);
        Check.due(2, "it is one row", x.count(0), 1);
    }

    private static void lowestBits() {
        int[][] bytes = {{127, 127}, {128, -128}, {-128, -128}, {-129, 127}, {255, -1}, {256, 0}, {-256, 0}, {-257, -1},
            {Integer.MAX_VALUE, -1}, {Integer.MIN_VALUE, 0}};
        int[][] shorts = {{32767, 32767}, {32768, -32768}, {-32768, -32768}, {-32769, 32767}, {65535, -1}, {65536, 0}, {-65536, 0},
            {-65537, -1}, {128, 128}, {-129, -129}, {Integer.MAX_VALUE, -1}, {Integer.MIN_VALUE, 0}};
        int[][] ints = {{Integer.MAX_VALUE, Integer.MAX_VALUE}, {Integer.MIN_VALUE, Integer.MIN_VALUE}, {-1, -1}, {32768, 32768},
            {-32769, -32769}, {65536, 65536}};
        int[][][] lanes = {bytes, shorts, ints};
        OldNews x = new OldNews();
        for (int lane = 0; lane < 3; lane++) {
            x.row(lane, lane, 2);
            for (int[] v : lanes[lane]) {
                Check.due(3, v[0] + " in lane " + lane, x.set(lane, 1, v[0]), v[1]);
            }
        }
    }

    private static void bitsAreKept() {
        int[] wraps = {256, 65536};
        for (int lane = 0; lane < 2; lane++) {
            OldNews x = RowTests.agesOf(5);
            x.row(0, lane, 1);
            x.set(0, 0, 5 + wraps[lane]);
            Check.due(3, "what it is then is kept in lane " + lane, x.fit(0, 0), 1);
            x.set(0, 0, 2 * wraps[lane] - 1);
            Check.due(3, "and its sign", x.fit(0, 0), 0);
            x.set(0, 0, wraps[lane] - 2);
            Check.due(3, "and its sign", x.fit(0, 0), OldNews.BAD);
        }
        OldNews x = RowTests.agesOf(5);
        x.row(0, 2, 1);
        x.set(0, 0, 5 + 65536);
        Check.due(3, "an int keeps all", x.fit(0, 0), OldNews.BAD);
    }

    private static void placesOfARow() {
        OldNews x = new OldNews();
        x.row(0, 0, 1);
        x.row(7, 2, 12);
        Check.due(3, "place 0 of 1", x.set(0, 0, 3), 3);
        Check.due(3, "place 1 of 1", x.set(0, 1, 3), PLACE);
        Check.due(3, "place -1 of 1", x.set(0, -1, 3), PLACE);
        Check.due(3, "place 11 of 12", x.set(7, 11, 3), 3);
        Check.due(3, "place 12 of 12", x.set(7, 12, 3), PLACE);
        Check.due(3, "row -1", x.set(-1, 0, 3), OldNews.BAD);
        Check.due(3, "row 8", x.set(8, 0, 3), OldNews.BAD);
        Check.due(3, "row 6, missing", x.set(6, 0, 3), NULL);
    }

    private static void copyUpToTheEnds() {
        OldNews x = new OldNews();
        x.row(0, 1, 10);
        x.row(7, 1, 4);
        Check.due(4, "all of the shorter one", x.copy(7, 0, 0, 0, 4), 4);
        Check.due(4, "to the end of the longer one", x.copy(7, 0, 0, 6, 4), 4);
        Check.due(4, "beyond its end", x.copy(7, 0, 0, 7, 4), PLACE);
        Check.due(4, "from the end of the longer one", x.copy(0, 6, 7, 0, 4), 4);
        Check.due(4, "from beyond it", x.copy(0, 7, 7, 0, 4), PLACE);
        Check.due(4, "more than b has", x.copy(0, 0, 7, 0, 5), PLACE);
        Check.due(4, "more than a has", x.copy(7, 0, 0, 0, 5), PLACE);
        Check.due(4, "the last one", x.copy(0, 9, 7, 3, 1), 1);
        Check.due(4, "behind the last of a", x.copy(0, 10, 7, 3, 1), PLACE);
        Check.due(4, "behind the last of b", x.copy(0, 9, 7, 4, 1), PLACE);
        Check.due(4, "ahead of the first of a", x.copy(0, -1, 7, 3, 1), PLACE);
        Check.due(4, "ahead of the first of b", x.copy(0, 0, 7, -1, 1), PLACE);
        x.row(1, 1, 40);
        Check.due(4, "all 40", x.copy(1, 0, 1, 0, 40), 40);
        Check.due(4, "41", x.copy(1, 0, 1, 0, 41), PLACE);
        Check.due(4, "row 8", x.copy(8, 0, 1, 0, 1), OldNews.BAD);
        Check.due(4, "row 8", x.copy(1, 0, 8, 0, 1), OldNews.BAD);
        Check.due(4, "row -1", x.copy(-1, 0, 1, 0, 1), OldNews.BAD);
        Check.due(4, "row -1", x.copy(1, 0, -1, 0, 1), OldNews.BAD);
    }

    private static void copyOfNone() {
        OldNews x = new OldNews();
        x.row(0, 0, 3);
        x.row(1, 0, 0);
        Check.due(4, "none", x.copy(0, 0, 0, 0, 0), 0);
        Check.due(4, "none from the end on", x.copy(0, 3, 0, 0, 0), 0);
        Check.due(4, "none from beyond it", x.copy(0, 4, 0, 0, 0), PLACE);
        Check.due(4, "none to the end", x.copy(0, 0, 0, 3, 0), 0);
        Check.due(4, "none to beyond it", x.copy(0, 0, 0, 4, 0), PLACE);
        Check.due(4, "none of a row of none", x.copy(1, 0, 0, 3, 0), 0);
        Check.due(4, "one of a row of none", x.copy(1, 0, 0, 0, 1), PLACE);
        Check.due(4, "none to a row of none", x.copy(0, 3, 1, 0, 0), 0);
        Check.due(4, "one to a row of none", x.copy(0, 0, 1, 0, 1), PLACE);
        Check.due(4, "fewer than none", x.copy(0, 1, 0, 1, -1), PLACE);
    }

    private static void copyOntoItself() {
        OldNews x = RowTests.agesOf(1, 1, 2, 3, 4, 5);
        RowTests.fill(x, 0, 1, 2, 3, 4, 5, 9);
        x.copy(0, 0, 0, 1, 5);
        Check.due(4, "one to the right, as they were ahead", x.fit(0, 0), ALL);
        RowTests.fill(x, 0, 9, 1, 1, 2, 3, 4, 5);
        x.copy(0, 1, 0, 0, 6);
        Check.due(4, "one to the left, as they were ahead", x.fit(0, 0), ALL);
        RowTests.fill(x, 0, 1, 1, 2, 3, 4, 5);
        x.copy(0, 0, 0, 0, 6);
        Check.due(4, "onto the same places", x.fit(0, 0), ALL);
        OldNews y = RowTests.agesOf(1, 2, 1, 2, 3, 4);
        RowTests.fill(y, 0, 1, 2, 3, 4, 9, 9);
        y.copy(0, 0, 0, 2, 4);
        Check.due(4, "two to the right", y.fit(0, 0), ALL);
    }

    private static void copyLeavesTheRest() {
        OldNews x = RowTests.agesOf(1, 2, 3, 4, 5, 6);
        RowTests.fill(x, 0, 9, 9, 3, 4, 9, 9);
        RowTests.fill(x, 1, 1, 2, 8, 8, 5, 6);
        RowTests.fill(x, 2, 0, 0, 0, 0, 0, 0);
        x.copy(0, 2, 1, 2, 2);
        Check.due(4, "what is beside it stays", x.fit(1, 0), ALL);
        x.copy(1, 0, 2, 0, 6);
        Check.due(4, "all of it", x.fit(2, 0), ALL);
        x.copy(0, 0, 2, 0, 6);
        Check.due(4, "a is not b", x.fit(2, 0), OldNews.NONE);
        Check.due(4, "a stays", x.fit(1, 0), ALL);
        x.set(1, 0, 7);
        x.set(0, 0, 1);
        Check.due(4, "they lie apart", x.set(2, 0, 9), 9);
    }

    private static void lanesOfTwo() {
        OldNews x = new OldNews();
        for (int row = 0; row < 6; row++) {
            x.row(row, row % 3, 2);
        }
        for (int a = 0; a < 6; a++) {
            for (int b = 0; b < 6; b++) {
                Check.due(4, "lanes " + a % 3 + ", " + b % 3, x.copy(a, 0, b, 0, 2), a % 3 == b % 3 ? 2 : STORE);
            }
        }
    }

    private static void dropped() {
        OldNews x = RowTests.agesOf(0);
        x.row(0, 0, 0);
        x.row(7, 2, 40);
        x.row(3, 1, 2);
        x.set(3, 0, 9);
        Check.due(5, "row -1", x.drop(-1), OldNews.BAD);
        Check.due(5, "row 8", x.drop(8), OldNews.BAD);
        Check.due(5, "row 1, missing", x.drop(1), NULL);
        Check.due(5, "one of none", x.drop(0), 0);
        Check.due(5, "one of 40", x.drop(7), 40);
        Check.due(5, "one is left", x.count(0), 1);
        Check.due(5, "one of two", x.drop(3), 2);
        Check.due(5, "it is missing: set", x.set(3, 0, 1), NULL);
        x.row(2, 1, 2);
        Check.due(5, "it is missing: copy from it", x.copy(3, 0, 2, 0, 1), NULL);
        Check.due(5, "it is missing: copy to it", x.copy(2, 0, 3, 0, 1), NULL);
        Check.due(5, "it is missing: fit", x.fit(3, 0), NULL);
        Check.due(5, "it is missing: drop", x.drop(3), NULL);
        Check.due(5, "laid anew", x.row(3, 1, 1), 1);
        Check.due(5, "its item is 0", x.fit(3, 0), 1);
    }
}
