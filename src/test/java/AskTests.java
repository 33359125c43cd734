/** Promises 26 to 31: kinds, asks, the trace, counts and findings. */
final class AskTests {
    private static final int KIND = -1000013;
    private static final String FIVE = "law old 9;worth 0 60;chest 0 0 5;keeper now 3 2;keeper age 4 2;keeper watch 6 3;"
        + "keeper copies 7 2;keeper silent 8 2;news 0 0 1 2 3 4;";

    private AskTests() {
    }

    static void run() {
        kind();
        as();
        ask();
        askRefused();
        trace();
        count();
        status();
    }

    private static void kind() {
        OldNews x = Check.on(FIVE);
        for (int k = 0; k < 5; k++) {
            Check.due(26, "kind of " + k, x.kind(k), k + 1);
        }
        Check.due(26, "keeper 5", x.kind(5), OldNews.BAD);
        Check.due(26, "keeper below", x.kind(-1), OldNews.BAD);
        Check.due(26, "no land", new OldNews().kind(0), OldNews.BAD);
    }

    private static void as() {
        OldNews x = Check.on(FIVE);
        String[] kinds = {"01", "02", "023", "024", "05"};
        for (int k = 0; k < 5; k++) {
            for (int kind = 0; kind <= 5; kind++) {
                boolean is = kinds[k].indexOf('0' + kind) >= 0;
                Check.due(27, k + " as " + kind, x.as(k, kind), is ? k : KIND);
                Check.due(31, k + " as " + kind, x.status(), is ? 0 : 3);
            }
        }
        Check.due(27, "kind 6", x.as(0, 6), OldNews.BAD);
        Check.due(27, "kind below", x.as(0, -1), OldNews.BAD);
        Check.due(27, "keeper 5", x.as(5, 0), OldNews.BAD);
        Check.due(27, "keeper below", x.as(-1, 0), OldNews.BAD);
        Check.due(27, "no land", new OldNews().as(0, 0), OldNews.BAD);
    }

    private static void ask() {
        OldNews x = Check.on(FIVE);
        x.go(1, 1);
        int[][] answers = {{7, -7}, {36, 41}, {-52, 62}, {143, 146}, {-105, -101}};
        int[][][] traces = {{{10}, {23, 20, 10}}, {{11, 10, 21, 20}, {21, 20}}, {{12, 11, 10, 21, 20}, {21, 20}},
            {{13, 11, 10, 22, 21, 20}, {22, 21, 20}}, {{14, 10}, {24, 20, 14, 10}}};
        for (int k = 0; k < 5; k++) {
            for (int what = 0; what < 2; what++) {
                Check.due(28, "ask " + k + " " + what, x.ask(k, what), answers[k][what]);
                Check.dueAll(29, "trace of ask " + k + " " + what, Check.traceOf(x), traces[k][what]);
            }
        }
    }

    private static void askRefused() {
        OldNews x = Check.on(FIVE);
        x.ask(1, 1);
        Check.due(28, "what 2", x.ask(1, 2), OldNews.BAD);
        Check.due(28, "what below", x.ask(1, -1), OldNews.BAD);
        Check.due(28, "keeper 5", x.ask(5, 0), OldNews.BAD);
        Check.due(28, "keeper below", x.ask(-1, 0), OldNews.BAD);
        Check.dueAll(28, "the trace stays", Check.traceOf(x), 21, 20);
        Check.due(28, "no land", new OldNews().ask(0, 0), OldNews.BAD);
    }

    private static void trace() {
        OldNews x = Check.on(FIVE);
        Check.due(29, "ahead of an ask", x.trace(0), OldNews.NONE);
        x.ask(3, 0);
        Check.due(29, "the last one", x.trace(5), 20);
        Check.due(29, "behind it", x.trace(6), OldNews.NONE);
        Check.due(29, "place 16", x.trace(16), OldNews.NONE);
        Check.due(29, "below", x.trace(-1), OldNews.NONE);
        Check.due(29, "far", x.trace(Integer.MAX_VALUE), OldNews.NONE);
        x.ask(0, 0);
        Check.dueAll(29, "empty ahead of an ask", Check.traceOf(x), 10);
    }

    private static void count() {
        OldNews x = Check.on("law fresh 8;worth 0 60;worth 7 60;worth 9 1;chest 0 0 5;keeper now 3 2;keeper age 4 2;news 0;");
        x.row(0, 0, 0);
        x.row(7, 0, 3);
        x.row(3, 0, 3);
        x.row(7, 0, 3);
        x.drop(3);
        x.feed(0, 6);
        x.go(5, 5);
        int[] counts = {2, 2, 1, 3, 5, 6, 8, 1};
        for (int what = 0; what < 8; what++) {
            Check.due(30, "count " + what, x.count(what), counts[what]);
        }
        Check.due(30, "count 8", x.count(8), OldNews.BAD);
        Check.due(30, "count below", x.count(-1), OldNews.BAD);
    }

    private static void status() {
        OldNews x = Check.on(FIVE);
        Check.due(31, "before a finding", x.status(), 0);
        x.set(0, 0, 0);
        Check.due(31, "NULL", x.status(), 1);
        x.row(9, 0, 0);
        x.set(-1, 0, 0);
        x.as(0, 9);
        x.copy(0, 0, 9, 0, 0);
        x.drop(8);
        x.fit(0, -2);
        Check.due(31, "BAD does not count", x.status(), 1);
        x.count(0);
        x.ask(0, 0);
        x.land();
        Check.due(31, "other calls do not count", x.status(), 1);
        x.row(0, 0, 3);
        Check.due(31, "none by row", x.status(), 0);
        x.set(0, 3, 0);
        Check.due(31, "PLACE", x.status(), 2);
        x.set(0, 2, 0);
        Check.due(31, "none by set", x.status(), 0);
        x.as(0, 5);
        Check.due(31, "KIND", x.status(), 3);
        x.row(1, 1, -1);
        Check.due(31, "SIZE", x.status(), 4);
        x.row(1, 1, 3);
        x.copy(0, 0, 1, 0, 0);
        Check.due(31, "STORE", x.status(), 5);
        x.copy(0, 0, 0, 1, 2);
        Check.due(31, "none by copy", x.status(), 0);
        x.drop(2);
        Check.due(31, "NULL by drop", x.status(), 1);
        x.drop(1);
        Check.due(31, "none by drop", x.status(), 0);
        x.copy(0, 0, 1, 0, 0);
        Check.due(31, "NULL by copy", x.status(), 1);
        OldNews none = new OldNews();
        none.drop(0);
        none.fit(0, 0);
        Check.due(31, "STATE does not count", none.status(), 1);
    }
}
