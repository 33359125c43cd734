/** Promises 9 to 13: worth by age, years, telling, and what keepers and pieces are asked for. */
final class YearTests {
    private YearTests() {
    }

    static void run() {
        value();
        valueByLaw();
        sellAndPay();
        asManyAsHadBy();
        whenEachSells();
        whenOneWatches();
        copiesSell();
        draws();
        seeds();
        goRefused();
        tell();
        keeper();
        piece();
    }

    /** A land of worth 60 in which all keepers saw the one piece. */
    static OldNews seenByAll(String chest, String... keepers) {
        StringBuilder text = new StringBuilder("law old 60;worth 0 60;chest " + chest + ";");
        StringBuilder news = new StringBuilder("news 0");
        for (int k = 0; k < keepers.length; k++) {
            text.append("keeper ").append(keepers[k]).append(';');
            news.append(' ').append(k);
        }
        return Check.on(text.append(news).append(';').toString());
    }

    /** The years in which the keepers sell piece 0, each by 1 year gone; -1: not in the first 20. */
    static int[] saleYears(OldNews x) {
        int[] years = new int[x.count(1)];
        java.util.Arrays.fill(years, -1);
        for (int y = 0; y < 20; y++) {
            x.go(1, 1);
            for (int k = 0; k < years.length; k++) {
                if (years[k] < 0 && x.keeper(k, 2) == 1) {
                    years[k] = y;
                }
            }
        }
        return years;
    }

    private static void value() {
        OldNews x = Check.on("law old 10;worth 2 7;worth 5 100;worth 8 1;worth 9 5;chest 0 0 0;keeper now 0 1;");
        int[] values = {7, 7, 7, 38, 69, 100, 67, 34, 1, 5, 5};
        for (int age = 0; age < values.length; age++) {
            Check.due(9, "V of " + age, x.value(age), values[age]);
        }
        Check.due(9, "far behind", x.value(999), 5);
        Check.due(9, "too far", x.value(1000), OldNews.BAD);
        Check.due(9, "below", x.value(-1), OldNews.BAD);
        OldNews cut = Check.on("law old 10;worth 0 10;worth 3 9;worth 6 14;chest 0 0 0;keeper now 0 1;");
        int[] cuts = {10, 10, 10, 9, 10, 12, 14};
        for (int age = 0; age < cuts.length; age++) {
            Check.due(9, "cut towards 0 at " + age, cut.value(age), cuts[age]);
        }
        Check.due(9, "STATE is ahead of BAD", new OldNews().value(-1), OldNews.STATE);
    }

    private static void valueByLaw() {
        OldNews x = Check.on("law fresh 10;worth 2 7;worth 5 100;worth 8 1;worth 9 5;chest 0 0 0;keeper now 0 1;");
        int[] values = {5, 5, 1, 34, 67, 100, 69, 38, 7, 7, 7, 7};
        for (int age = 0; age < values.length; age++) {
            Check.due(9, "fresh V of " + age, x.value(age), values[age]);
        }
        Check.due(9, "fresh far behind", x.value(999), 7);
        Check.due(9, "fresh, BAD", x.value(1000), OldNews.BAD);
    }

    private static void sellAndPay() {
        OldNews x = seenByAll("0 2 3", "now 0 1", "age 1 2", "silent 0 3");
        int[][] earned = {{20, -3, -6}, {20, 6, -12}, {20, 3, -18}};
        for (int y = 0; y < 3; y++) {
            Check.due(10, "years gone", x.go(1, 1), y + 1);
            for (int k = 0; k < 3; k++) {
                Check.due(10, "earned by " + k + " behind year " + y, x.keeper(k, 0), earned[y][k]);
            }
            Check.due(10, "who knows behind year " + y, x.piece(0, 2), 2 * y + 2);
        }
        Check.due(10, "he has it further on", x.keeper(0, 10), 1);
        Check.due(10, "years at once", x.go(60, 999999), 63);
        Check.due(10, "earned once", x.keeper(0, 0), 20);
        Check.due(10, "the cost of every year", x.keeper(2, 0), -18 - 360);
        OldNews y = seenByAll("0 2 3", "now 0 1", "age 1 2", "silent 0 3");
        Check.due(10, "three at once", y.go(3, 5), 3);
        Check.due(10, "three at once", y.keeper(1, 0), 3);
    }

    private static void asManyAsHadBy() {
        OldNews six = seenByAll("0 3 0", "now 0 1", "now 0 1", "age 1 1");
        six.go(1, 1);
        Check.due(13, "worth for six", six.piece(0, 4), 10);
        Check.due(10, "both by as many as had it then", six.keeper(1, 0), 20);
        six.go(1, 1);
        Check.due(10, "for six", six.keeper(2, 0), 10);
        Check.due(13, "worth for nine", six.piece(0, 4), 0);
        OldNews seven = seenByAll("0 4 0", "now 0 1", "now 0 1", "age 1 1");
        seven.go(2, 1);
        Check.due(10, "for seven", seven.keeper(2, 0), 0);
        OldNews none = Check.on("law old 9;worth 0 60;chest 0 5 0;keeper now 0 1;news 3;");
        Check.due(13, "worth for none", none.piece(0, 4), 60);
        none.go(1, 1);
        Check.due(10, "what is not sold does not spread", none.piece(0, 2), 0);
    }

    private static void whenEachSells() {
        Check.dueAll(10, "now, whatever his N", saleYears(seenByAll("0 0 0", "now 60 3")), 0);
        Check.dueAll(10, "age", saleYears(seenByAll("0 0 0", "age 0 1", "age 7 1", "age 8 9")), 0, 7, 8);
        Check.dueAll(10, "watch as age", saleYears(seenByAll("0 0 0", "watch 7 1")), 7);
        Check.dueAll(10, "silent", saleYears(seenByAll("0 0 0", "silent 0 1", "silent 5 1")), -1, -1);
        OldNews two = Check.on("law old 9;worth 0 1;chest 0 0 0;keeper age 1 1;keeper now 0 1;news 0 0 1;news 0;news 0 0;");
        two.go(1, 1);
        Check.due(10, "each piece that he has", two.keeper(1, 2), 1);
        two.go(1, 1);
        Check.due(10, "each piece that he has", two.keeper(0, 2), 5);
        Check.due(10, "first sold", two.piece(0, 3), 0);
        Check.due(10, "first sold", two.piece(2, 3), 1);
        Check.due(10, "never sold", two.piece(1, 3), OldNews.NONE);
    }

    private static void whenOneWatches() {
        Check.dueAll(10, "ahead of an age", saleYears(seenByAll("0 0 0", "watch 9 1", "age 4 1")), 3, 4);
        Check.dueAll(10, "by numbers", saleYears(seenByAll("0 0 0", "age 4 1", "watch 9 1")), 4, 3);
        Check.dueAll(10, "ahead of a watch", saleYears(seenByAll("0 0 0", "watch 9 1", "watch 4 1")), 3, 4);
        Check.dueAll(10, "ahead of copies", saleYears(seenByAll("0 0 0", "watch 9 1", "copies 4 2")), 3, 4);
        Check.dueAll(10, "not of now, silent", saleYears(seenByAll("0 0 0", "watch 9 1", "now 0 1", "silent 0 1")), 9, 0, -1);
        Check.dueAll(10, "one who sold ahead", saleYears(seenByAll("0 0 0", "age 0 1", "watch 9 1")), 0, 9);
        Check.dueAll(10, "one who sells behind", saleYears(seenByAll("0 0 0", "watch 9 1", "age 0 1")), 0, 0);
        Check.dueAll(10, "an N of y and 1", saleYears(seenByAll("0 0 0", "age 1 1", "watch 9 1")), 1, 0);
        Check.dueAll(10, "not himself", saleYears(seenByAll("0 0 0", "watch 3 1", "age 9 1")), 3, 9);
        OldNews x = Check.on("law old 60;worth 0 1;chest 0 0 0;keeper watch 9 1;keeper age 4 1;news 0 0;news 0 1;");
        x.go(9, 1);
        Check.due(10, "one who does not have it", x.keeper(0, 2), 0);
        x.go(1, 1);
        Check.due(10, "as age", x.keeper(0, 2), 1);
    }

    private static void copiesSell() {
        Check.dueAll(10, "with copies, as age", saleYears(seenByAll("0 0 0", "copies 5 2", "copies 6 9")), 5, 6);
        Check.dueAll(10, "with just one", saleYears(seenByAll("0 0 0", "copies 5 1")), 0);
        // By seed 1 the rests are 807, 249, ..: of two, one is left.
        OldNews x = seenByAll("500 0 0", "copies 5 2");
        x.go(2, 1);
        Check.due(10, "with one left", x.keeper(0, 2), 1);
        Check.due(10, "with one left", x.piece(0, 3), 1);
        OldNews y = Check.on("law old 60;worth 0 1;chest 0 0 0;keeper copies 5 2;keeper copies 7 1;news 0 0;");
        y.tell(0, 0, 1);
        y.go(1, 1);
        Check.due(10, "with one told", y.keeper(1, 2), 1);
        Check.due(10, "with two", y.keeper(0, 2), 0);
    }

    private static void draws() {
        // The rests by seed 1: 807, 249, 73, 658, 930, 272, 544, 878, 923.
        OldNews nine = seenByAll("500 0 10", "silent 0 9");
        nine.go(1, 1);
        Check.due(10, "three are lost", nine.keeper(0, 10), 6);
        Check.due(10, "what is lost costs nothing", nine.keeper(0, 0), -50);
        OldNews edge = seenByAll("249 0 0", "silent 0 2");
        edge.go(1, 1);
        Check.due(10, "249 is not below 249", edge.keeper(0, 10), 2);
        OldNews below = seenByAll("250 0 0", "silent 0 2");
        below.go(1, 1);
        Check.due(10, "249 is below 250", below.keeper(0, 10), 1);
        OldNews order = Check.on("law old 9;worth 0 1;chest 500 0 0;keeper silent 0 1;keeper silent 0 3;news 0 0 1;news 0 0 1;");
        order.go(1, 1);
        int[][] left = {{1, 0}, {2, 2}};
        for (int k = 0; k < 2; k++) {
            for (int p = 0; p < 2; p++) {
                Check.due(10, "keepers, then pieces " + k + p, order.keeper(k, 10 + p), left[k][p]);
            }
        }
        Check.due(10, "had by who has it", order.piece(1, 1), 1);
        OldNews safe = seenByAll("0 0 0", "silent 0 9");
        safe.go(60, 4711);
        Check.due(10, "nothing is lost by 0", safe.keeper(0, 10), 9);
    }

    private static void seeds() {
        OldNews on = seenByAll("500 0 0", "silent 0 1");
        on.go(2, 1);
        Check.due(10, "X goes on from year to year", on.keeper(0, 10), 0);
        OldNews anew = seenByAll("500 0 0", "silent 0 1");
        anew.go(1, 1);
        anew.go(1, 1);
        Check.due(10, "the seed is X at first", anew.keeper(0, 10), 1);
        OldNews big = seenByAll("500 0 0", "silent 0 2");
        // 999999 times 16807 by 2147483647 leaves 1774092764: a rest of 764; the next one's is 800.
        long x = 999999L * 16807 % 2147483647L;
        long y = x * 16807 % 2147483647L;
        big.go(1, 999999);
        Check.due(10, "a great seed", big.keeper(0, 10), (x % 1000 >= 500 ? 1 : 0) + (y % 1000 >= 500 ? 1 : 0));
    }

    private static void goRefused() {
        OldNews x = seenByAll("0 0 0", "now 0 1");
        int[][] bad = {{0, 1}, {61, 1}, {-1, 1}, {1, 0}, {1, 1000000}, {1, -1}};
        for (int[] b : bad) {
            Check.due(10, "go " + b[0] + " " + b[1], x.go(b[0], b[1]), OldNews.BAD);
        }
        Check.due(10, "no year went", x.count(4), 0);
        Check.due(10, "STATE is ahead of BAD", new OldNews().go(0, 0), OldNews.STATE);
    }

    private static void tell() {
        OldNews x = Check.on("law old 9;worth 0 60;chest 0 0 0;keeper now 0 7;keeper silent 0 1;keeper now 0 1;news 0 0;news 0 0 2;");
        Check.due(11, "one who had none", x.tell(0, 0, 1), 1);
        Check.due(11, "had by two", x.piece(0, 1), 2);
        Check.due(11, "one more", x.tell(1, 0, 0), 8);
        Check.due(11, "one more", x.tell(1, 0, 0), 9);
        Check.due(11, "nine", x.tell(1, 0, 0), OldNews.FULL);
        Check.due(11, "nine stay", x.keeper(0, 10), 9);
        Check.due(11, "who tells keeps his", x.keeper(1, 10), 1);
        Check.due(11, "he has none", x.tell(1, 1, 0), OldNews.STATE);
        Check.due(11, "STATE is ahead of FULL", x.tell(2, 0, 0), OldNews.STATE);
        Check.due(11, "alike", x.tell(0, 0, 0), OldNews.BAD);
        Check.due(11, "keeper 3", x.tell(3, 0, 0), OldNews.BAD);
        Check.due(11, "other 3", x.tell(0, 0, 3), OldNews.BAD);
        Check.due(11, "keeper below", x.tell(-1, 0, 0), OldNews.BAD);
        Check.due(11, "other below", x.tell(0, 0, -1), OldNews.BAD);
        Check.due(11, "piece 2", x.tell(0, 2, 1), OldNews.BAD);
        Check.due(11, "piece below", x.tell(0, -1, 1), OldNews.BAD);
        Check.due(11, "no land", new OldNews().tell(0, 0, 1), OldNews.BAD);
        x.go(1, 1);
        int earned = x.keeper(2, 0);
        x.tell(0, 1, 2);
        x.go(1, 1);
        Check.due(11, "what was sold is not sold again", x.keeper(2, 0), earned);
    }

    private static void keeper() {
        OldNews x = Check.on("law old 9;worth 0 60;chest 0 0 1;keeper now 0 3;keeper age 2 4;news 0 0;news 0 1;news 0 0 1;");
        x.go(1, 1);
        int[][] due = {{60 + 30 - 4, 6, 5, 3, 0, 3}, {-6, 8, 0, 0, 4, 4}};
        for (int k = 0; k < 2; k++) {
            for (int i = 0; i < 6; i++) {
                int what = i < 3 ? i : 7 + i;
                Check.due(12, "keeper " + k + " " + what, x.keeper(k, what), due[k][i]);
            }
        }
        int[] bad = {-1, 3, 9, 13, 18, Integer.MAX_VALUE, Integer.MIN_VALUE, Integer.MIN_VALUE + 10};
        for (int what : bad) {
            Check.due(12, "what " + what, x.keeper(0, what), OldNews.BAD);
        }
        Check.due(12, "keeper 2", x.keeper(2, 0), OldNews.BAD);
        Check.due(12, "keeper below", x.keeper(-1, 0), OldNews.BAD);
    }

    private static void piece() {
        OldNews x = Check.on("law old 9;worth 0 0;worth 9 90;chest 0 1 0;keeper age 2 3;keeper silent 2 4;news 0 0;news 999 1 0;news 5;");
        x.go(4, 1);
        int[][] due = {{0, 1, 2, 2, 13}, {999, 2, 2, 2, 10}, {5, 0, 0, OldNews.NONE, 40}};
        for (int p = 0; p < 3; p++) {
            for (int what = 0; what < 5; what++) {
                Check.due(13, "piece " + p + " " + what, x.piece(p, what), due[p][what]);
            }
        }
        Check.due(13, "what 5", x.piece(0, 5), OldNews.BAD);
        Check.due(13, "what below", x.piece(0, -1), OldNews.BAD);
        Check.due(13, "piece 3", x.piece(3, 0), OldNews.BAD);
        Check.due(13, "piece below", x.piece(-1, 0), OldNews.BAD);
        Check.due(13, "no land", new OldNews().piece(0, 0), OldNews.BAD);
    }
}
