/** The bounds that promises 26 to 31 and "4 ASKS" of the terms name, from both sides. */
final class AskBounds {
    private static final int NULL = -1000011, PLACE = -1000012, KIND = -1000013, SIZE = -1000014, STORE = -1000015;
    private static final String[] WAYS = {"now", "age", "watch", "copies", "silent"};

    private AskBounds() {
    }

    static void run() {
        kindsAsTold();
        takenAs();
        bodiesThatBegin();
        earnedBelowNone();
        piecesInSize();
        theLeastOfMarks();
        theTrace();
        theTraceStays();
        counts();
        countsOfMost();
        statusOfRows();
        statusOfFits();
        statusOfAs();
        statusOfNone();
        statusByOthers();
    }

    /** One keeper of each way, N 10, 20, .., C 1, 2, ..; and a sixth one. */
    private static OldNews six(int cost, String news) {
        StringBuilder text = new StringBuilder("law old 60;worth 0 60;chest 0 0 " + cost + ";");
        for (int k = 0; k < 5; k++) {
            text.append("keeper ").append(WAYS[k]).append(' ').append(10 * k + 10).append(' ').append(k + 1).append(';');
        }
        return Check.on(text.append("keeper now 0 9;").append(news).toString());
    }

    private static void kindsAsTold() {
        OldNews x = six(0, "");
        Check.due(26, "keeper -1", x.kind(-1), OldNews.BAD);
        for (int k = 0; k < 5; k++) {
            Check.due(26, WAYS[k], x.kind(k), k + 1);
        }
        Check.due(26, "the last keeper", x.kind(5), 1);
        Check.due(26, "keeper 6", x.kind(6), OldNews.BAD);
        OldNews one = Check.on("law old 60;worth 0 60;chest 0 0 0;keeper silent 0 1;");
        Check.due(26, "the only keeper", one.kind(0), 5);
        Check.due(26, "keeper 1 of one", one.kind(1), OldNews.BAD);
        one.as(0, 0);
        Check.due(26, "as told, whatever he is taken as", one.kind(0), 5);
    }

    private static void takenAs() {
        OldNews x = six(0, "");
        boolean[][] is = {{true, true, false, false, false, false}, {true, false, true, false, false, false},
            {true, false, true, true, false, false}, {true, false, true, false, true, false}, {true, false, false, false, false, true},
            {true, true, false, false, false, false}};
        for (int k = 0; k < 6; k++) {
            Check.due(27, "keeper " + k + " as -1", x.as(k, -1), OldNews.BAD);
            for (int kind = 0; kind < 6; kind++) {
                Check.due(27, "keeper " + k + " as " + kind, x.as(k, kind), is[k][kind] ? k : KIND);
            }
            Check.due(27, "keeper " + k + " as 6", x.as(k, 6), OldNews.BAD);
        }
        Check.due(27, "keeper -1", x.as(-1, 0), OldNews.BAD);
        Check.due(27, "keeper 6", x.as(6, 0), OldNews.BAD);
        Check.due(27, "keeper 6, who would be no such one", x.as(6, 5), OldNews.BAD);
    }

    private static void asked(OldNews x, int keeper, int what, int answer, int... bodies) {
        Check.due(28, "ask " + keeper + " " + what, x.ask(keeper, what), answer);
        Check.dueAll(29, "bodies of ask " + keeper + " " + what, Check.traceOf(x), bodies);
    }

    private static void bodiesThatBegin() {
        // Worth 60 for six: 10 each; at first nobody has sold.
        OldNews x = six(0, "news 0 0 1 2 3 4 5;");
        for (int round = 0; round < 2; round++) {
            int earned = 10 * round;
            asked(x, 0, 0, earned, 10);
            asked(x, 0, 1, 0 - earned, 23, 20, 10);
            asked(x, 1, 0, 201, 11, 10, 21, 20);
            asked(x, 1, 1, 201, 21, 20);
            asked(x, 2, 0, -302, 12, 11, 10, 21, 20);
            asked(x, 2, 1, 302, 21, 20);
            asked(x, 3, 0, 806 + 4, 13, 11, 10, 22, 21, 20);
            asked(x, 3, 1, 806, 22, 21, 20);
            asked(x, 4, 0, -100, 14, 10);
            asked(x, 4, 1, -96, 24, 20, 14, 10);
            asked(x, 5, 0, earned, 10);
            asked(x, 5, 1, 5 - earned, 23, 20, 10);
            x.go(1, 1);
        }
        x.go(40, 1);
        asked(x, 1, 0, 211, 11, 10, 21, 20);
        asked(x, 2, 0, -312, 12, 11, 10, 21, 20);
        asked(x, 3, 0, 816 + 4, 13, 11, 10, 22, 21, 20);
        asked(x, 4, 0, -100, 14, 10);
    }

    private static void earnedBelowNone() {
        OldNews x = six(7, "news 0 0 1 2 3 4 5;");
        x.go(1, 1);
        asked(x, 0, 0, 10, 10);
        asked(x, 1, 0, -7 + 201, 11, 10, 21, 20);
        asked(x, 2, 0, 14 - 302, 12, 11, 10, 21, 20);
        asked(x, 3, 0, -21 + 806 + 4, 13, 11, 10, 22, 21, 20);
        asked(x, 4, 0, -28 - 100, 14, 10);
        asked(x, 4, 1, 4 - 128, 24, 20, 14, 10);
        asked(x, 5, 0, 10 - 56, 10);
        asked(x, 5, 1, 5 + 46, 23, 20, 10);
    }

    private static void piecesInSize() {
        asked(six(0, ""), 3, 0, 806, 13, 11, 10, 22, 21, 20);
        asked(six(0, "news 0;"), 3, 0, 806, 13, 11, 10, 22, 21, 20);
        asked(six(0, "news 0 3;news 0 0;news 0 3;"), 3, 0, 806 + 8, 13, 11, 10, 22, 21, 20);
        OldNews told = six(0, "news 0 3;news 0 0;");
        told.tell(0, 1, 3);
        asked(told, 3, 0, 806 + 5, 13, 11, 10, 22, 21, 20);
    }

    private static void theLeastOfMarks() {
        for (int n : new int[] {0, 1, 60}) {
            for (int k = 0; k < 5; k++) {
                OldNews x = Check.on("law old 60;worth 0 60;chest 0 0 0;keeper " + WAYS[k] + " " + n + " 1;");
                int[] marks = {0, 10 * n, 10 * n, 20 * n, -100};
                Check.due(28, "MARK of " + WAYS[k] + " " + n, x.ask(0, 1), marks[k]);
                int[] sizes = {0, 10 * n, -10 * n, 20 * n, -100};
                Check.due(28, "SIZE of " + WAYS[k] + " " + n, x.ask(0, 0), sizes[k]);
            }
        }
        OldNews x = six(0, "");
        Check.due(28, "what -1", x.ask(0, -1), OldNews.BAD);
        Check.due(28, "what 2", x.ask(0, 2), OldNews.BAD);
        Check.due(28, "keeper -1", x.ask(-1, 0), OldNews.BAD);
        Check.due(28, "keeper 5", x.ask(5, 1), 5);
        Check.due(28, "keeper 6", x.ask(6, 0), OldNews.BAD);
    }

    private static void theTrace() {
        OldNews x = six(0, "");
        for (int i = -1; i <= 17; i++) {
            Check.due(29, "number " + i + " ahead of an ask", x.trace(i), OldNews.NONE);
        }
        x.ask(3, 0);
        int[] bodies = {13, 11, 10, 22, 21, 20};
        for (int i = -1; i <= 17; i++) {
            Check.due(29, "number " + i, x.trace(i), i >= 0 && i < 6 ? bodies[i] : OldNews.NONE);
        }
        Check.due(29, "far", x.trace(Integer.MAX_VALUE), OldNews.NONE);
        Check.due(29, "far below", x.trace(Integer.MIN_VALUE), OldNews.NONE);
        for (int i = 0; i < 3; i++) {
            x.ask(5, 0);
            Check.due(29, "it is empty ahead of an ask", x.trace(0), 10);
            Check.due(29, "it is empty ahead of an ask", x.trace(1), OldNews.NONE);
        }
    }

    private static void theTraceStays() {
        OldNews x = six(0, "news 0 0 1;");
        x.ask(1, 0);
        int[][] refused = {{-1, 0}, {6, 0}, {0, -1}, {0, 2}, {6, 2}};
        for (int[] r : refused) {
            Check.due(28, "ask " + r[0] + " " + r[1], x.ask(r[0], r[1]), OldNews.BAD);
            Check.dueAll(29, "it stays where an ask is refused", Check.traceOf(x), 11, 10, 21, 20);
        }
        x.image(0);
        x.go(2, 1);
        x.restore(0);
        x.as(1, 5);
        x.land();
        Check.land(x, "law old 5;worth 0 1;chest 0 0 0;keeper now 0 1;");
        x.ask(1, 0);
        Check.dueAll(29, "it stays but for an ask", Check.traceOf(x), 11, 10, 21, 20);
    }

    private static void counts() {
        OldNews x = new OldNews();
        for (int what = 0; what < 8; what++) {
            Check.due(30, "of nothing, " + what, x.count(what), 0);
        }
        Check.land(x, "law fresh 1;worth 0 1;chest 0 0 0;keeper now 0 1;");
        int[] least = {0, 1, 0, 1, 0, 0, 1, 1};
        for (int what = 0; what < 8; what++) {
            Check.due(30, "of the least, " + what, x.count(what), least[what]);
        }
        Check.due(30, "what -1", x.count(-1), OldNews.BAD);
        Check.due(30, "what 8", x.count(8), OldNews.BAD);
        Check.due(30, "far", x.count(Integer.MAX_VALUE), OldNews.BAD);
    }

    private static void countsOfMost() {
        StringBuilder text = new StringBuilder("law old 60;");
        for (int i = 0; i < 8; i++) {
            text.append("worth ").append(i).append(" 1;");
        }
        text.append("chest 0 0 0;");
        for (int i = 0; i < 6; i++) {
            text.append("keeper now 0 1;");
        }
        for (int i = 0; i < 8; i++) {
            text.append("news 0;");
        }
        OldNews x = Check.on(text.toString());
        for (int row = 0; row < 8; row++) {
            x.row(row, 0, 0);
        }
        x.go(60, 1);
        x.go(60, 1);
        for (int i = 0; i < 63; i++) {
            x.feed(-1, 8);
        }
        x.feed(-1, 4);
        int[] most = {8, 6, 8, 8, 120, 500, 60, 0};
        for (int what = 0; what < 8; what++) {
            Check.due(30, "of the most, " + what, x.count(what), most[what]);
        }
        x.drop(3);
        Check.due(30, "a row less", x.count(0), 7);
    }

    private static void status(OldNews x, String behind, int got, int want, int status) {
        Check.due(31, behind, got, want);
        Check.due(31, "status behind " + behind, x.status(), status);
    }

    private static void statusOfRows() {
        OldNews x = new OldNews();
        Check.due(31, "at first", x.status(), 0);
        status(x, "row, BAD", x.row(8, 0, 0), OldNews.BAD, 0);
        status(x, "row, SIZE", x.row(0, 0, -1), SIZE, 4);
        status(x, "row, BAD", x.row(0, 0, 41), OldNews.BAD, 4);
        status(x, "row, BAD, though fewer than none", x.row(0, 3, -1), OldNews.BAD, 4);
        status(x, "set, BAD", x.set(8, 0, 0), OldNews.BAD, 4);
        status(x, "drop, BAD", x.drop(8), OldNews.BAD, 4);
        status(x, "copy, BAD", x.copy(0, 0, 8, 0, 0), OldNews.BAD, 4);
        status(x, "row", x.row(0, 0, 2), 2, 0);
        status(x, "set, NULL", x.set(1, 0, 0), NULL, 1);
        status(x, "set", x.set(0, 0, 5), 5, 0);
        status(x, "set, PLACE", x.set(0, 2, 0), PLACE, 2);
        status(x, "set", x.set(0, 1, -9), -9, 0);
        status(x, "copy, NULL", x.copy(0, 0, 1, 0, 1), NULL, 1);
        status(x, "copy", x.copy(0, 0, 0, 1, 1), 1, 0);
        status(x, "copy, PLACE", x.copy(0, 0, 0, 1, 2), PLACE, 2);
        status(x, "copy of none", x.copy(0, 0, 0, 1, 0), 0, 0);
        x.row(1, 1, 2);
        status(x, "copy, STORE", x.copy(0, 0, 1, 0, 1), STORE, 5);
        status(x, "drop", x.drop(1), 2, 0);
        status(x, "drop, NULL", x.drop(1), NULL, 1);
        status(x, "row of none", x.row(1, 0, 0), 0, 0);
        status(x, "drop, NULL", x.drop(2), NULL, 1);
        status(x, "drop of none", x.drop(1), 0, 0);
    }

    private static void statusOfFits() {
        OldNews x = Check.on("law old 5;worth 0 1;chest 0 0 0;keeper age 5 1;keeper age 5 1;");
        status(x, "fit, NULL", x.fit(0, -1), NULL, 1);
        x.row(0, 0, 2);
        x.row(1, 0, 1);
        status(x, "fit", x.fit(0, -1), 0, 0);
        status(x, "fit, PLACE", x.fit(1, -1), PLACE, 2);
        status(x, "fit, BAD", x.fit(8, -1), OldNews.BAD, 2);
        status(x, "fit, BAD", x.fit(0, -2), OldNews.BAD, 2);
        x.set(0, 0, 6);
        x.drop(7);
        status(x, "fit, the late BAD", x.fit(0, -1), OldNews.BAD, 1);
        x.set(0, 0, 5);
        x.drop(7);
        status(x, "fit, NONE", x.fit(0, 0), OldNews.NONE, 0);
        x.set(0, 1, 5);
        x.drop(7);
        status(x, "fit, a set", x.fit(0, 0), 3, 0);
    }

    private static void statusOfAs() {
        OldNews x = six(0, "");
        status(x, "as, KIND", x.as(0, 2), KIND, 3);
        status(x, "as, BAD", x.as(6, 0), OldNews.BAD, 3);
        status(x, "as, BAD", x.as(0, 6), OldNews.BAD, 3);
        status(x, "as", x.as(0, 1), 0, 0);
        status(x, "as, BAD", x.as(0, -1), OldNews.BAD, 0);
        x.drop(0);
        status(x, "as", x.as(5, 0), 5, 0);
        x.drop(0);
        status(x, "as, KIND", x.as(5, 5), KIND, 3);
    }

    private static void statusOfNone() {
        OldNews x = new OldNews();
        x.drop(0);
        status(x, "as, with no land", x.as(0, 0), OldNews.BAD, 1);
        status(x, "fit, STATE", x.fit(0, 0), OldNews.STATE, 1);
        x.row(0, 0, 1);
        status(x, "fit, STATE", x.fit(7, -2), OldNews.STATE, 0);
    }

    /** Calls without a row: status stays what it was, by whatever they answer. */
    private static void statusByOthers() {
        for (int first = 0; first < 2; first++) {
            OldNews x = new OldNews();
            if (first == 1) {
                x.row(0, 0, -1);
            }
            int due = 4 * first;
            String text = "law old 5;worth 0 60;chest 0 0 0;keeper now 0 9;keeper now 0 1;keeper now 0 1;news 0 0 1;";
            status(x, "land, a fault", x.land(), -1000100, due);
            Check.feed(x, text);
            status(x, "feed", x.feed(' ', 1), text.length() + 1, due);
            status(x, "land", x.land(), 3, due);
            status(x, "fault", x.fault(), 1, due);
            status(x, "value", x.value(0), 60, due);
            status(x, "value, BAD", x.value(-1), OldNews.BAD, due);
            status(x, "go", x.go(1, 1), 1, due);
            status(x, "go, BAD", x.go(0, 1), OldNews.BAD, due);
            status(x, "tell, FULL", x.tell(1, 0, 0), OldNews.FULL, due);
            status(x, "tell, STATE", x.tell(2, 0, 0), OldNews.STATE, due);
            status(x, "tell", x.tell(1, 0, 2), 1, due);
            status(x, "keeper", x.keeper(0, 0), 30, due);
            status(x, "piece", x.piece(0, 1), 3, due);
            status(x, "alone", x.alone(0, 1, 0), 60, due);
            status(x, "best", x.best(0), 1, due);
            status(x, "two", x.two(5, 0, 1), 30, due);
            status(x, "think", x.think(5, 0, 0), 5, due);
            status(x, "lostUse", x.lostUse(0, 0, 0), 0, due);
            status(x, "silence", x.silence(0, 1, 0, 0, 0), 20, due);
            status(x, "corner", x.corner(0, 0, 0, 2), OldNews.NONE, due);
            status(x, "make", x.make(0, 0, 0), 1, due);
            status(x, "laws", x.laws(0), 60, due);
            status(x, "image", x.image(0), 1, due);
            status(x, "restore", x.restore(0), 1, due);
            status(x, "restore, STATE", x.restore(1), OldNews.STATE, due);
            status(x, "kind", x.kind(0), 1, due);
            status(x, "ask", x.ask(0, 0), 30, due);
            status(x, "trace", x.trace(0), 10, due);
            status(x, "count", x.count(0), 0, due);
        }
    }
}
