/** Promises 6 to 8: the tape, its text and the faults of it. */
final class TextTests {
    private static final String HEAD = "law old 9;worth 0 1;chest 0 0 0;";
    private static final String SHORT = HEAD + "keeper now 0 1;";

    private TextTests() {
    }

    static void run() {
        feed();
        feedIsRead();
        gaps();
        faultsOfTheLaw();
        faultsOfPointsAndChest();
        faultsOfKeepersAndNews();
        noRoom();
        whatAFaultLeaves();
        whatALandReplaces();
        fault();
    }

    private static void feed() {
        OldNews x = new OldNews();
        Check.due(6, "none", x.feed(0, 0), OldNews.BAD);
        Check.due(6, "nine", x.feed(0, 9), OldNews.BAD);
        Check.due(6, "below", x.feed(0, Integer.MIN_VALUE), OldNews.BAD);
        Check.due(6, "one", x.feed('l', 1), 1);
        Check.due(6, "the lowest of them", x.feed(0x7a7a7a7a7a7a6177L, 2), 3);
        Check.due(6, "the highest first", x.feed(' ' << 24 | 'o' << 16 | 'l' << 8 | 'd', 4), 7);
        Check.land(x, "9;worth 0 1;chest 0 0 0;keeper now 0 1;");
        Check.due(6, "all is read", x.count(1), 1);
        for (int i = 1; i <= 62; i++) {
            Check.due(6, "eight more", x.feed(-1L, 8), 8 * i);
        }
        Check.due(6, "beyond 500", x.feed(0, 5), OldNews.FULL);
        Check.due(6, "BAD is ahead of FULL", x.feed(0, 9), OldNews.BAD);
        Check.due(6, "none came", x.count(5), 496);
        Check.due(6, "500", x.feed(0, 4), 500);
        Check.due(6, "one more", x.feed(0, 1), OldNews.FULL);
        Check.due(6, "none came", x.count(5), 500);
    }

    private static void feedIsRead() {
        OldNews x = new OldNews();
        StringBuilder text = new StringBuilder(SHORT);
        while (text.length() < 500) {
            text.append(' ');
        }
        Check.feed(x, text.toString());
        Check.due(7, "500 bytes", x.land(), 1);
        Check.due(7, "the tape is empty", x.count(5), 0);
    }

    private static void gaps() {
        int[][] counts = {{1, 1}, {2, 2}, {3, 1}, {6, 9}, {7, 0}};
        String[] texts = {SHORT + "news 0;news 5 0;",
            "\n law\nold  9 ; worth 0 1 ;\n\nchest 0 0 0 ; keeper now 0 1 ; news 0 ; news 5 0 0 ; \n",
            "law old9;worth0 1;chest0 0 0;keeper now0 1;news0;news5 0;",
            "law old 0009;worth 00 0001;chest 0000 0 0;keeper now 0 01;news 000;news 05 00;"};
        for (String text : texts) {
            OldNews x = new OldNews();
            Check.due(7, text, Check.land(x, text), 1);
            for (int[] count : counts) {
                Check.due(7, text + " count " + count[0], x.count(count[0]), count[0] == 2 ? 2 : count[1]);
            }
            Check.due(7, "seen once", x.keeper(0, 11), 1);
        }
        faulty("law old 9;worth 0 1;chest 00 0;keeper now 0 1;", 30, 1);
        faulty("lawold 9;", 0, 1);
        faulty("law\told 9;", 3, 1);
        faulty("law\rold 9;", 3, 1);
    }

    private static void faulty(String text, int place, int number) {
        OldNews x = new OldNews();
        Check.due(7, text, Check.land(x, text), -1000100 - place);
        Check.due(8, text, x.fault(), number);
    }

    private static void faultsOfTheLaw() {
        faulty("", 0, 1);
        faulty("  \n", 3, 1);
        faulty(" worth", 1, 1);
        faulty("Law old 9;", 0, 1);
        faulty("laws old 9;", 0, 1);
        faulty("lawz old 9;", 0, 1);
        faulty("alaw old 9;", 0, 1);
        faulty("law{old 9;", 3, 1);
        faulty("law`old 9;", 3, 1);
        faulty("law old /;", 8, 1);
        faulty("law old :;", 8, 1);
        faulty("la", 0, 1);
        faulty("law 9;", 4, 1);
        faulty("law older 9;", 4, 1);
        faulty("law old", 7, 1);
        faulty("law old ;", 8, 1);
        faulty("law old 0;", 8, 2);
        faulty("law old 60", 10, 1);
        faulty("law old 61;", 8, 2);
        faulty("law old 9999;", 8, 2);
        faulty("law old 00001;", 8, 1);
        faulty("law old 9 9;", 10, 1);
        faulty("law old 9,", 9, 1);
        faulty("law old 9\u00b2", 9, 1);
        faulty("law old -9;", 8, 1);
        faulty("law fresh 60; ", 14, 1);
    }

    private static void faultsOfPointsAndChest() {
        faulty("law old 9;chest 0 0 0;", 10, 1);
        faulty("law old 9;worth 61 1;", 16, 2);
        faulty("law old 9;worth 60 1;worth 60 1;", 27, 2);
        faulty("law old 9;worth 5 1;worth 4 1;", 26, 2);
        faulty("law old 9;worth 5 10000;", 18, 1);
        faulty("law old 9;worth 5 9999 1;", 23, 1);
        faulty("law old 9;worth 5;", 17, 1);
        faulty("law old 9;worth 5 1;keeper", 20, 1);
        faulty("law old 9;worth 5 1;chest 501 0 0;", 26, 2);
        faulty("law old 9;worth 5 1;chest 500 21 0;", 30, 2);
        faulty("law old 9;worth 5 1;chest 500 20 1000;", 33, 2);
        faulty("law old 9;worth 5 1;chest 500 20 999 ", 37, 1);
        faulty(HEAD + "chest 0 0 0;", 32, 1);
        faulty(HEAD + "worth 1 1;", 32, 1);
    }

    private static void faultsOfKeepersAndNews() {
        faulty(HEAD, 32, 1);
        faulty(HEAD + "news 1;", 32, 1);
        faulty(HEAD + "keeper later 0 1;", 39, 1);
        faulty(HEAD + "keeper 0 1;", 39, 1);
        faulty(HEAD + "keeper keeper 0 1;", 39, 1);
        faulty(HEAD + "keeper now 61 1;", 43, 2);
        faulty(HEAD + "keeper now 60 0;", 46, 2);
        faulty(HEAD + "keeper now 60 10;", 46, 2);
        faulty(HEAD + "keeper now 60 9", 47, 1);
        faulty(SHORT + "worth 1 1;", 47, 1);
        faulty(SHORT + "news;", 51, 1);
        faulty(SHORT + "news 1000;", 52, 2);
        faulty(SHORT + "news 999 1;", 56, 2);
        faulty(SHORT + "news 999 0 1 0;", 58, 2);
        faulty(SHORT + "news 999 00000;", 56, 1);
        faulty(SHORT + "news 999 0", 57, 1);
        faulty(SHORT + "news 999;keeper now 0 1;", 56, 1);
        faulty(SHORT + ";", 47, 1);
        faulty(SHORT + "#", 47, 1);
        faulty(SHORT + "news 1;news 2 0; \u0000", 64, 1);
        faulty(SHORT + "12345", 47, 1);
        faulty(SHORT + "1234", 47, 1);
    }

    private static String times(int n, String text) {
        StringBuilder all = new StringBuilder();
        for (int i = 0; i < n; i++) {
            all.append(text.replace("#", "" + i));
        }
        return all.toString();
    }

    private static void noRoom() {
        String points = "law old 9;" + times(8, "worth # 1;");
        faulty(points + "worth 8 1;", 90, 3);
        faulty(points + " worth", 91, 3);
        faulty(points + "worths", 90, 1);
        String keepers = points + "chest 0 0 0;" + times(6, "keeper now # 1;");
        faulty(keepers + "keeper none", 192, 3);
        faulty(keepers + "worth 8 1;", 192, 1);
        String news = keepers + times(8, "news # #;").replace("6 6", "6 5").replace("7 7", "7 5");
        faulty(news + "news", 264, 3);
        faulty(news + "keeper", 264, 1);
        OldNews x = new OldNews();
        Check.due(7, "as many as there is room for", Check.land(x, news), 6);
        Check.due(7, "news", x.count(2), 8);
        Check.due(7, "points", x.count(3), 8);
    }

    private static void whatAFaultLeaves() {
        OldNews x = Check.on("law fresh 9;worth 0 1;worth 5 6;chest 0 1 3;keeper now 0 2;keeper age 4 1;news 7 0 1;");
        x.go(2, 1);
        int earned = x.keeper(0, 0);
        Check.due(7, "a fault at its end", Check.land(x, "law old 60;worth 3 3;chest 1 1 1;keeper silent 1 1;news 3 0;news"), -1000164);
        Check.due(7, "the tape is empty", x.count(5), 0);
        int[] counts = {0, 2, 1, 2, 2, 0, 9, 1};
        for (int what = 0; what < 8; what++) {
            Check.due(7, "count " + what + " stays", x.count(what), counts[what]);
        }
        Check.due(7, "value stays", x.value(9), 1);
        Check.due(7, "kind stays", x.kind(0), 1);
        Check.due(7, "earned stays", x.keeper(0, 0), earned);
        Check.due(7, "sold stays", x.piece(0, 3), 0);
        Check.due(7, "known stays", x.piece(0, 2), 2);
        x.go(1, 1);
        Check.due(7, "cost stays", x.keeper(0, 0), earned - 3);
    }

    private static void whatALandReplaces() {
        OldNews x = Check.on("law old 9;worth 0 100;chest 0 1 3;keeper now 0 2;keeper age 4 1;news 7 0 1;");
        x.row(2, 0, 3);
        x.image(1);
        x.ask(1, 1);
        x.go(2, 1);
        Check.due(7, "another land", Check.land(x, "law old 8;worth 0 100;chest 0 1 0;keeper now 0 3;keeper now 0 1;news 6 1;news 5 0;"), 2);
        Check.due(7, "year 0", x.count(4), 0);
        Check.due(7, "nothing earned", x.keeper(0, 0), 0);
        Check.due(7, "nothing sold", x.keeper(0, 2), 0);
        Check.due(7, "never sold", x.piece(0, 3), OldNews.NONE);
        Check.due(7, "none knows", x.piece(0, 2), 0);
        Check.due(7, "who did not see it", x.keeper(0, 10), 0);
        Check.due(7, "C of what he saw", x.keeper(0, 11), 3);
        Check.due(7, "points", x.count(3), 1);
        Check.due(7, "rows stay", x.drop(2), 3);
        Check.dueAll(7, "the trace stays", Check.traceOf(x), 21, 20);
        x.go(1, 1);
        Check.due(7, "a third one", Check.land(x, "law old 1;worth 0 9999;chest 500 20 999;keeper now 60 9;"), 1);
        int[] counts = {1, 1, 0, 1, 0, 0, 1, 0};
        for (int what = 1; what < 8; what++) {
            Check.due(7, "count " + what + " of a third one", x.count(what), counts[what]);
        }
        Check.land(x, "law old 60;worth 0 1;worth 60 0;chest 0 0 0;keeper now 0 1;keeper now 0 1;news 0 0;news 0;news 1;");
        Check.due(7, "points of a fourth one", x.count(3), 2);
        Check.due(7, "news of a fourth one", x.count(2), 3);
        Check.due(7, "nothing earned in a fourth one", x.keeper(0, 0) + x.keeper(1, 0), 0);
        Check.due(7, "nothing sold in a fourth one", x.keeper(0, 2) + x.keeper(1, 2), 0);
        Check.due(7, "images stay", x.restore(1), 1);
        Check.due(7, "images stay", x.kind(1), 2);
    }

    private static void fault() {
        OldNews x = new OldNews();
        Check.due(8, "before one", x.fault(), 0);
        Check.land(x, "law old 61;");
        Check.due(8, "of a number", x.fault(), 2);
        Check.land(x, SHORT);
        Check.due(8, "the latest stays", x.fault(), 2);
        Check.land(x, "law old 61,");
        Check.due(8, "the first token that has one", x.fault(), 2);
        x.land();
        Check.due(8, "of no text", x.fault(), 1);
    }
}
