/** The bounds that promises 9 to 13 and "2" of the terms name, from both sides. */
final class YearBounds {
    private YearBounds() {
    }

    static void run() {
        agesOfAValue();
        valueAroundThePoints();
        valueIsCut();
        valueByLawFresh();
        worthForAsManyAs();
        worthByWhoKnowsAlone();
        yearsAtOnce();
        seeds();
        theYearOfAnAge();
        nowAndSilent();
        theYearBeforeAnother();
        whoIsWatched();
        justOneOfIt();
        soldOnce();
        earnedForAsManyAs();
        earnedOfAll();
        lostByChance();
        eachOneDraws();
        spread();
        cost();
        earnedBelowNone();
        asOftenAsAnObjectIsUsed();
        telling();
        tellingRefused();
        ofAKeeper();
        ofAPiece();
    }

    private static OldNews of(String points, String law) {
        return Check.on("law " + law + ";" + points + "chest 0 0 0;keeper now 0 1;");
    }

    private static void agesOfAValue() {
        for (String law : new String[] {"old 10", "fresh 10"}) {
            OldNews x = of("worth 0 5;worth 10 25;", law);
            int from = law.equals("old 10") ? 5 : 25;
            Check.due(9, law + ", age -1", x.value(-1), OldNews.BAD);
            Check.due(9, law + ", age 0", x.value(0), from);
            Check.due(9, law + ", age 999", x.value(999), 30 - from);
            Check.due(9, law + ", age 1000", x.value(1000), OldNews.BAD);
            Check.due(9, law + ", LAST", x.value(10), 30 - from);
            Check.due(9, law + ", behind LAST", x.value(11), 30 - from);
        }
        OldNews none = new OldNews();
        for (int age : new int[] {-1, 0, 999, 1000}) {
            Check.due(9, "no land, age " + age, none.value(age), OldNews.STATE);
        }
    }

    private static void valueAroundThePoints() {
        OldNews x = of("worth 3 7;worth 5 100;worth 6 50;worth 60 9999;", "old 1");
        int[][] due = {{0, 7}, {2, 7}, {3, 7}, {4, 53}, {5, 100}, {6, 50}, {7, 50 + 9949 / 54}, {59, 50 + 9949 * 53 / 54}, {60, 9999},
            {61, 9999}};
        for (int[] d : due) {
            Check.due(9, "V of " + d[0], x.value(d[0]), d[1]);
        }
        OldNews one = of("worth 60 5;", "old 60");
        Check.due(9, "one point, ahead", one.value(0), 5);
        Check.due(9, "one point, at it", one.value(60), 5);
        Check.due(9, "one point, behind", one.value(61), 5);
        OldNews first = of("worth 0 5;worth 1 0;", "old 60");
        Check.due(9, "V 0", first.value(1), 0);
        Check.due(9, "V 0 behind", first.value(2), 0);
    }

    private static void valueIsCut() {
        OldNews rising = of("worth 0 10;worth 3 11;", "old 9");
        OldNews falling = of("worth 0 10;worth 3 9;", "old 9");
        int[][] due = {{10, 10}, {10, 10}, {10, 10}, {11, 9}};
        for (int age = 0; age < 4; age++) {
            Check.due(9, "rising, cut", rising.value(age), due[age][0]);
            Check.due(9, "falling, cut towards 0", falling.value(age), due[age][1]);
        }
        Check.due(9, "far down", of("worth 0 9999;worth 60 0;", "old 9").value(59), 9999 - 9832);
        Check.due(9, "far up", of("worth 0 0;worth 60 9999;", "old 9").value(59), 9832);
        Check.due(9, "to none", of("worth 0 1;worth 60 0;", "old 9").value(59), 1);
    }

    private static void valueByLawFresh() {
        OldNews x = of("worth 0 5;worth 4 45;worth 5 0;", "fresh 7");
        int[] due = {0, 0, 0, 45, 35, 25, 15, 5, 5, 5};
        for (int age = 0; age < due.length; age++) {
            Check.due(9, "fresh V of " + age, x.value(age), due[age]);
        }
        OldNews late = of("worth 2 5;worth 4 45;", "fresh 3");
        int[] ofLate = {25, 5, 5, 5, 5};
        for (int age = 0; age < ofLate.length; age++) {
            Check.due(9, "fresh V of " + age + ", LAST between two", late.value(age), ofLate[age]);
        }
    }

    private static void worthForAsManyAs() {
        // 59 by 1, 1, 2, .. 6: 59, 59, 29, 19, 14, 11, 9.
        int[] due = {59, 59, 29, 19, 14, 11, 9};
        for (int m = 0; m <= 6; m++) {
            StringBuilder text = new StringBuilder("law old 9;worth 0 59;chest 0 0 0;");
            StringBuilder news = new StringBuilder("news 0");
            for (int k = 0; k < 6; k++) {
                text.append("keeper silent 0 9;");
                news.append(k < m ? " " + k : "");
            }
            OldNews x = Check.on(text.append(news).append(';').toString());
            Check.due(13, "had by " + m, x.piece(0, 1), m);
            Check.due(13, "worth for " + m, x.piece(0, 4), due[m]);
        }
        for (int spread = 4; spread <= 6; spread++) {
            OldNews x = YearTests.seenByAll("0 " + spread + " 0", "now 0 1");
            x.go(1, 1);
            Check.due(13, "had by one keeper, whoever knows it", x.piece(0, 1), 1);
            Check.due(13, "worth for " + (1 + spread), x.piece(0, 4), spread == 4 ? 12 : spread == 5 ? 10 : 0);
        }
        OldNews seven = YearTests.seenByAll("0 1 0", "now 0 1", "silent 0 1", "silent 0 1", "silent 0 1", "silent 0 1", "silent 0 1");
        Check.due(13, "worth for six", seven.piece(0, 4), 10);
        seven.go(1, 1);
        Check.due(13, "worth for seven", seven.piece(0, 4), 0);
        seven.go(60, 1);
        Check.due(13, "worth for 67", seven.piece(0, 4), 0);
    }

    private static void worthByWhoKnowsAlone() {
        for (int spread = 0; spread <= 3; spread++) {
            // By seed 3 the first rest is 421: what was sold is lost.
            OldNews x = YearTests.seenByAll("500 " + spread + " 0", "now 0 1");
            x.go(1, 3);
            Check.due(13, "no keeper has it", x.piece(0, 1), 0);
            Check.due(13, "how many know it", x.piece(0, 2), spread);
            Check.due(13, "worth for " + spread, x.piece(0, 4), spread < 2 ? 60 : 60 / spread);
        }
    }

    private static void yearsAtOnce() {
        OldNews x = YearTests.seenByAll("0 0 0", "age 60 1");
        Check.due(10, "0 years", x.go(0, 1), OldNews.BAD);
        Check.due(10, "61 years", x.go(61, 1), OldNews.BAD);
        Check.due(10, "-1 years", x.go(-1, 1), OldNews.BAD);
        Check.due(10, "no year went by", x.count(4), 0);
        Check.due(10, "60 years", x.go(60, 1), 60);
        Check.due(10, "years 0 to 59: an N of 60", x.piece(0, 3), OldNews.NONE);
        Check.due(10, "1 year", x.go(1, 1), 61);
        Check.due(10, "year 60: an N of 60", x.piece(0, 3), 60);
        Check.due(10, "years go on behind LAST", x.go(60, 1), 121);
    }

    private static void seeds() {
        OldNews x = YearTests.seenByAll("0 0 0", "age 60 1");
        Check.due(10, "seed 0", x.go(1, 0), OldNews.BAD);
        Check.due(10, "seed -1", x.go(1, -1), OldNews.BAD);
        Check.due(10, "seed 1", x.go(1, 1), 1);
        Check.due(10, "seed 999999", x.go(1, 999999), 2);
        Check.due(10, "seed 1000000", x.go(1, 1000000), OldNews.BAD);
        Check.due(10, "two years went by", x.count(4), 2);
    }

    private static void theYearOfAnAge() {
        int[] ns = {0, 1, 2, 19};
        for (int n : ns) {
            Check.dueAll(10, "age " + n, YearTests.saleYears(YearTests.seenByAll("0 0 0", "age " + n + " 1")), n);
            Check.dueAll(10, "watch " + n, YearTests.saleYears(YearTests.seenByAll("0 0 0", "watch " + n + " 1")), n);
            Check.dueAll(10, "copies " + n, YearTests.saleYears(YearTests.seenByAll("0 0 0", "copies " + n + " 2")), n);
        }
        // Told in year 4: y is more than N.
        OldNews x = Check.on("law old 9;worth 0 60;chest 0 0 0;keeper age 2 1;keeper silent 0 1;news 0 1;");
        x.go(4, 1);
        x.tell(1, 0, 0);
        x.go(1, 1);
        Check.due(10, "an N behind him", x.piece(0, 3), 4);
    }

    private static void nowAndSilent() {
        OldNews x = YearTests.seenByAll("0 0 0", "now 60 9", "silent 0 1");
        x.go(1, 1);
        Check.due(10, "now, in year 0", x.keeper(0, 2), 1);
        x.go(60, 1);
        x.go(60, 1);
        Check.due(10, "silent, never", x.keeper(1, 2), 0);
        OldNews one = YearTests.seenByAll("0 0 0", "silent 0 1");
        one.go(60, 1);
        one.go(1, 1);
        Check.due(10, "silent, with one", one.piece(0, 3), OldNews.NONE);
    }

    private static void theYearBeforeAnother() {
        for (String other : new String[] {"age # 1", "watch # 1", "copies # 2"}) {
            for (int n = 0; n <= 4; n++) {
                int[] years = YearTests.saleYears(YearTests.seenByAll("0 0 0", "watch 9 1", other.replace("#", "" + n)));
                Check.dueAll(10, "watch ahead of " + other.replace("#", "" + n), years, Math.max(n - 1, 0), n);
                years = YearTests.saleYears(YearTests.seenByAll("0 0 0", other.replace("#", "" + n), "watch 9 1"));
                Check.dueAll(10, "watch behind " + other.replace("#", "" + n), years, n, n == 0 ? 9 : n - 1);
            }
        }
        Check.dueAll(10, "watch as age, ahead of another's", YearTests.saleYears(YearTests.seenByAll("0 0 0", "watch 2 1", "age 9 1")), 2, 9);
        Check.dueAll(10, "two who watch", YearTests.saleYears(YearTests.seenByAll("0 0 0", "watch 5 1", "watch 6 1")), 5, 4);
    }

    private static void whoIsWatched() {
        for (String other : new String[] {"now 3 1", "silent 3 1"}) {
            OldNews x = Check.on("law old 9;worth 0 60;chest 0 0 0;keeper watch 9 1;keeper " + other + ";news 0 0;");
            x.go(3, 1);
            x.tell(0, 0, 1);
            x.go(6, 1);
            Check.due(10, "not of " + other, x.keeper(0, 2), 0);
            x.go(1, 1);
            Check.due(10, "as age", x.keeper(0, 2), 1);
        }
        OldNews told = Check.on("law old 9;worth 0 60;chest 0 0 0;keeper watch 9 1;keeper age 3 1;news 0 0;");
        told.go(3, 1);
        Check.due(10, "he does not have it", told.keeper(0, 2), 0);
        told.tell(0, 0, 1);
        told.go(1, 1);
        Check.due(10, "he has it now", told.keeper(0, 2), 1);
        // The rests by seed 1 are 807 and 249: he who is watched loses it, and by 807 each year the other keeps his.
        OldNews lost = YearTests.seenByAll("500 0 0", "watch 9 1", "age 4 1");
        for (int y = 0; y < 9; y++) {
            lost.go(1, 1);
        }
        Check.due(10, "he has lost it", lost.keeper(0, 2), 0);
        OldNews sold = YearTests.seenByAll("0 0 0", "age 3 1", "watch 9 1", "age 0 1");
        sold.go(1, 1);
        Check.due(10, "one who has not sold, behind him", sold.keeper(1, 2), 1);
        OldNews gone = YearTests.seenByAll("0 0 0", "age 0 1", "watch 9 1");
        gone.go(9, 1);
        Check.due(10, "one who has sold", gone.keeper(1, 2), 0);
        OldNews other = Check.on("law old 9;worth 0 60;chest 0 0 0;keeper age 0 1;keeper watch 9 1;news 0 0;news 0 0 1;news 0 1;");
        other.go(9, 1);
        Check.due(10, "of another piece", other.keeper(1, 2), 0);
    }

    private static void justOneOfIt() {
        Check.dueAll(10, "of one", YearTests.saleYears(YearTests.seenByAll("0 0 0", "copies 9 1")), 0);
        Check.dueAll(10, "of two", YearTests.saleYears(YearTests.seenByAll("0 0 0", "copies 9 2")), 9);
        OldNews x = Check.on("law old 9;worth 0 60;chest 0 0 0;keeper copies 9 1;keeper silent 9 1;news 0 0 1;news 0 1;news 0 0 1;");
        x.tell(1, 0, 0);
        x.go(1, 1);
        Check.due(10, "of one told, two; of none, none", x.keeper(0, 2), 4);
        x.tell(1, 1, 0);
        x.go(1, 1);
        Check.due(10, "one told", x.keeper(0, 2), 6);
    }

    private static void soldOnce() {
        OldNews x = YearTests.seenByAll("0 0 0", "now 0 1", "silent 0 1");
        x.go(1, 1);
        Check.due(10, "sold", x.keeper(0, 0), 30);
        Check.due(10, "he has it further on", x.keeper(0, 10), 1);
        x.go(1, 1);
        x.tell(1, 0, 0);
        x.go(1, 1);
        Check.due(10, "once", x.keeper(0, 0), 30);
        OldNews lost = YearTests.seenByAll("500 0 0", "now 0 1", "silent 0 9");
        lost.go(1, 3);
        Check.due(10, "sold and lost", lost.keeper(0, 10), 0);
        lost.tell(1, 0, 0);
        lost.go(1, 1);
        Check.due(10, "told anew, it is sold already", lost.keeper(0, 0), 30);
        Check.due(13, "the year in which it was first sold", lost.piece(0, 3), 0);
    }

    private static void earnedForAsManyAs() {
        int[] due = {30, 20, 15, 12, 10, 0, 0};
        for (int spread = 1; spread <= 7; spread++) {
            // In year 1 it is had by keeper 0, who sold it in year 0, by keeper 1, and by as many more as know it.
            OldNews x = YearTests.seenByAll("0 " + (spread - 1) + " 0", "now 0 1", "age 1 1");
            x.go(2, 1);
            Check.due(10, "sold when " + (spread + 1) + " had it", x.keeper(1, 0), due[spread - 1]);
            Check.due(10, "sold, whatever it was worth", x.keeper(1, 2), 1);
        }
        OldNews years = Check.on("law old 9;worth 0 0;worth 9 90;chest 0 0 0;keeper age 0 1;keeper age 3 1;keeper age 9 1;keeper age 10 1;"
            + "news 0 0;news 0 1;news 0 2;news 0 3;");
        years.go(11, 1);
        int[] earned = {0, 30, 90, 90};
        for (int k = 0; k < 4; k++) {
            Check.due(10, "worth of the year, keeper " + k, years.keeper(k, 0), earned[k]);
            Check.due(10, "sold, keeper " + k, years.keeper(k, 2), 1 << k);
        }
        OldNews same = YearTests.seenByAll("0 20 0", "now 0 1", "now 0 1", "now 0 1");
        same.go(1, 1);
        for (int k = 0; k < 3; k++) {
            Check.due(10, "in the same year, for three", same.keeper(k, 0), 20);
        }
    }

    private static void earnedOfAll() {
        OldNews x = Check.on("law old 9;worth 0 60;worth 1 90;chest 0 0 0;keeper now 0 1;keeper age 1 1;keeper silent 0 1;"
            + "news 0 0;news 0 0 1;news 0 1;news 0 1 2;");
        x.go(1, 1);
        Check.due(10, "of two pieces in one year", x.keeper(0, 0), 60 + 30);
        x.tell(2, 3, 0);
        x.go(1, 1);
        Check.due(10, "and of a third one in the next year", x.keeper(0, 0), 60 + 30 + 30);
        Check.due(10, "of three pieces in one year", x.keeper(1, 0), 45 + 90 + 30);
    }

    /** A seed by which the first X leaves a rest by 1000. */
    private static int seedOf(int rest) {
        for (int seed = 1; seed <= 999999; seed++) {
            if ((long) seed * 16807 % 2147483647L % 1000 == rest) {
                return seed;
            }
        }
        throw new IllegalStateException("no seed leaves " + rest);
    }

    private static void lostByChance() {
        int[][] due = {{0, 0, 1}, {1, 0, 0}, {1, 1, 1}, {2, 1, 0}, {500, 499, 0}, {500, 500, 1}, {499, 499, 1}, {500, 999, 1}, {0, 999, 1},
            {500, 0, 0}};
        for (int[] d : due) {
            OldNews x = YearTests.seenByAll(d[0] + " 0 0", "silent 0 1");
            x.go(1, seedOf(d[1]));
            Check.due(10, "LOST " + d[0] + ", a rest of " + d[1], x.keeper(0, 10), d[2]);
        }
    }

    private static void eachOneDraws() {
        for (int seed : new int[] {1, 127773, 127774, 255000, 999999}) {
            OldNews x = Check.on("law old 9;worth 0 60;chest 400 0 0;keeper silent 0 9;keeper silent 0 2;news 0 0 1;news 0 1;news 0 0;");
            int[] ones = {9, 0, 9, 2, 2, 0};
            int[] left = ones.clone();
            long rest = seed;
            for (int y = 0; y < 3; y++) {
                int[] before = left.clone();
                for (int i = 0; i < 6; i++) {
                    for (int one = 0; one < before[i]; one++) {
                        rest = rest * 16807 % 2147483647L;
                        left[i] -= rest % 1000 < 400 ? 1 : 0;
                    }
                }
            }
            x.go(3, seed);
            for (int i = 0; i < 6; i++) {
                Check.due(10, "seed " + seed + ", keeper " + i / 3 + ", piece " + i % 3, x.keeper(i / 3, 10 + i % 3), left[i]);
            }
        }
    }

    private static void spread() {
        for (int spread : new int[] {0, 1, 20}) {
            OldNews x = Check.on("law old 9;worth 0 60;chest 0 " + spread + " 0;keeper now 0 1;keeper now 0 1;keeper age 1 1;"
                + "keeper silent 0 1;news 0 0 1;news 0 2;news 0 3;news 0;");
            int[][] known = {{1, 0, 0, 0}, {2, 1, 0, 0}, {3, 2, 0, 0}};
            for (int y = 0; y < 3; y++) {
                x.go(1, 1);
                for (int p = 0; p < 4; p++) {
                    Check.due(10, "SPREAD " + spread + " behind year " + y + ", piece " + p, x.piece(p, 2), spread * known[y][p]);
                }
            }
        }
        OldNews lost = YearTests.seenByAll("500 3 0", "now 0 1");
        lost.go(1, 3);
        lost.go(1, 3);
        Check.due(10, "it was sold, whoever has it now", lost.piece(0, 2), 6);
    }

    private static void cost() {
        int[] due = {0, 0, -7, -14, -21, -28, -35, -42, -49, -56};
        for (int c = 1; c <= 9; c++) {
            OldNews x = YearTests.seenByAll("0 0 7", "silent 0 " + c);
            x.go(1, 1);
            Check.due(10, "the cost of " + c, x.keeper(0, 0), due[c]);
            x.go(1, 1);
            Check.due(10, "the cost of " + c + ", twice", x.keeper(0, 0), 2 * due[c]);
        }
        OldNews none = Check.on("law old 9;worth 0 60;chest 0 0 7;keeper silent 0 9;keeper silent 0 9;news 0 1;");
        none.go(1, 1);
        Check.due(10, "the cost of none", none.keeper(0, 0), 0);
        OldNews two = Check.on("law old 9;worth 0 60;chest 0 0 7;keeper silent 0 2;keeper silent 0 1;news 0 0 1;news 0 0 1;news 0 0;");
        two.tell(1, 1, 0);
        two.go(1, 1);
        Check.due(10, "of each piece", two.keeper(0, 0), -7 * (1 + 2 + 1));
        Check.due(10, "of one of each", two.keeper(1, 0), 0);
        // By seed 3 the rests are 421 and 747: one of two is lost ahead of the cost, then none is beyond the first.
        OldNews lost = YearTests.seenByAll("500 0 7", "silent 0 2");
        lost.go(1, 3);
        Check.due(10, "one of two is lost", lost.keeper(0, 10), 1);
        Check.due(10, "ahead of the cost", lost.keeper(0, 0), 0);
        Check.due(10, "COST 0", costOf("0 0 0"), 0);
        Check.due(10, "COST 999", costOf("0 0 999"), -8 * 999);
    }

    private static int costOf(String chest) {
        OldNews x = YearTests.seenByAll(chest, "silent 0 9");
        x.go(1, 1);
        return x.keeper(0, 0);
    }

    private static void earnedBelowNone() {
        OldNews x = YearTests.seenByAll("0 0 20", "now 0 4");
        x.go(1, 1);
        Check.due(12, "as much as it cost", x.keeper(0, 0), 0);
        x.go(1, 1);
        Check.due(12, "below none", x.keeper(0, 0), -60);
    }

    /** 512 calls, most of them of 60 years: nothing that is summed wraps around. */
    private static void asOftenAsAnObjectIsUsed() {
        StringBuilder text = new StringBuilder("law old 60;worth 0 60;chest 0 20 999;keeper watch 0 9;keeper now 0 9;keeper silent 0 9;");
        for (int p = 0; p < 8; p++) {
            text.append("news 0 0 1 2;");
        }
        OldNews x = Check.on(text.toString());
        int years = 0;
        for (int i = (text.length() + 7) / 8 + 1 + 9; i < 512; i++) {
            years += 60;
            Check.due(10, "years gone", x.go(60, 999999), years);
        }
        int cost = -years * 8 * 8 * 999;
        Check.due(10, "far below none, not around", cost < -1800000000 ? 1 : 0, 1);
        Check.due(12, "EARNED, far below none", x.keeper(0, 0), cost + 8 * 20);
        Check.due(12, "EARNED, far below none", x.keeper(1, 0), cost + 8 * 20);
        Check.due(12, "EARNED, far below none", x.keeper(2, 0), cost);
        Check.due(13, "how many know it", x.piece(7, 2), 20 * years);
        Check.due(13, "worth for so many", x.piece(7, 4), 0);
        Check.due(28, "SIZE of one who watches", x.ask(0, 0), -(cost + 8 * 20));
        Check.due(28, "MARK of one who sells now", x.ask(1, 1), 1 - (cost + 8 * 20));
        Check.due(28, "SIZE of one who is silent", x.ask(2, 0), cost - 100);
        Check.due(30, "years gone", x.count(4), years);
    }

    private static void telling() {
        OldNews x = Check.on("law old 9;worth 0 60;chest 0 0 0;keeper silent 0 1;keeper silent 0 8;keeper silent 0 2;keeper now 0 1;"
            + "keeper now 0 1;keeper now 0 1;news 0 0 1;news 0 2;news 0;news 0;news 0;news 0;news 0;news 0 0;");
        Check.due(11, "who has 1 tells", x.tell(0, 0, 2), 1);
        Check.due(11, "had by one more", x.piece(0, 1), 3);
        Check.due(11, "eight, and one more", x.tell(0, 0, 1), 9);
        Check.due(11, "nine", x.tell(0, 0, 1), OldNews.FULL);
        Check.due(11, "nine are left", x.keeper(1, 10), 9);
        Check.due(11, "who has nine tells", x.tell(1, 0, 5), 1);
        Check.due(11, "the last keeper tells", x.tell(5, 0, 0), 2);
        Check.due(11, "the last piece", x.tell(0, 7, 5), 1);
        Check.due(11, "behind the last piece", x.tell(0, 8, 5), OldNews.BAD);
        Check.due(11, "to one behind the last keeper", x.tell(0, 0, 6), OldNews.BAD);
        Check.due(11, "by one behind the last keeper", x.tell(6, 0, 0), OldNews.BAD);
        Check.due(11, "of another piece he has none", x.tell(0, 1, 2), OldNews.STATE);
        Check.due(11, "of another piece he is not full", x.tell(2, 1, 1), 1);
    }

    private static void tellingRefused() {
        OldNews x = Check.on("law old 9;worth 0 60;chest 0 0 0;keeper silent 0 9;keeper silent 0 9;keeper silent 0 1;news 0 0 1;news 0;");
        Check.due(11, "alike, though full", x.tell(0, 0, 0), OldNews.BAD);
        Check.due(11, "alike, though he has none", x.tell(2, 0, 2), OldNews.BAD);
        Check.due(11, "no such keeper, though he has none", x.tell(2, 0, 3), OldNews.BAD);
        Check.due(11, "no such piece, though alike", x.tell(2, 2, 2), OldNews.BAD);
        Check.due(11, "he has none, though the other is full", x.tell(2, 0, 1), OldNews.STATE);
        Check.due(11, "he is full", x.tell(0, 0, 1), OldNews.FULL);
        Check.due(11, "nobody has it", x.tell(0, 1, 1), OldNews.STATE);
        Check.due(11, "nobody had it", x.piece(1, 1), 0);
        Check.due(11, "-1", x.tell(-1, 0, 0), OldNews.BAD);
        Check.due(11, "-1", x.tell(0, -1, 1), OldNews.BAD);
        Check.due(11, "-1", x.tell(0, 0, -1), OldNews.BAD);
    }

    private static void ofAKeeper() {
        StringBuilder text = new StringBuilder("law old 9;worth 0 60;chest 0 0 0;");
        StringBuilder news = new StringBuilder();
        for (int k = 0; k < 6; k++) {
            text.append("keeper now 0 ").append(k + 1).append(';');
        }
        for (int p = 0; p < 8; p++) {
            news.append("news 0 5").append(p < 6 ? " " + p : "").append(';');
        }
        OldNews x = Check.on(text.toString() + news);
        Check.due(12, "nothing sold", x.keeper(5, 2), 0);
        x.go(1, 1);
        Check.due(12, "eight pieces, six of each", x.keeper(5, 1), 48);
        Check.due(12, "eight pieces sold", x.keeper(5, 2), 255);
        Check.due(12, "one sold", x.keeper(4, 2), 16);
        for (int p = 0; p < 8; p++) {
            Check.due(12, "of piece " + p, x.keeper(5, 10 + p), 6);
            Check.due(12, "of piece " + p, x.keeper(3, 10 + p), p == 3 ? 4 : 0);
        }
        for (int what : new int[] {-1, 3, 4, 9, 18, 19, Integer.MAX_VALUE, Integer.MIN_VALUE}) {
            Check.due(12, "what " + what, x.keeper(5, what), OldNews.BAD);
        }
        Check.due(12, "keeper 6", x.keeper(6, 0), OldNews.BAD);
        Check.due(12, "keeper -1", x.keeper(-1, 0), OldNews.BAD);
        OldNews none = of("worth 0 1;", "old 9");
        Check.due(12, "he has none", none.keeper(0, 1), 0);
        Check.due(12, "there is no piece", none.keeper(0, 10), OldNews.BAD);
        Check.due(12, "there is no other keeper", none.keeper(1, 0), OldNews.BAD);
    }

    private static void ofAPiece() {
        OldNews x = Check.on("law old 9;worth 0 60;chest 0 0 0;keeper age 1 1;keeper age 2 1;news 0 0 1;news 999;");
        Check.due(13, "USE 0", x.piece(0, 0), 0);
        Check.due(13, "USE 999", x.piece(1, 0), 999);
        Check.due(13, "not sold", x.piece(0, 3), OldNews.NONE);
        x.go(1, 1);
        Check.due(13, "not sold in year 0", x.piece(0, 3), OldNews.NONE);
        x.go(1, 1);
        Check.due(13, "sold in year 1", x.piece(0, 3), 1);
        x.go(1, 1);
        Check.due(13, "sold again in year 2", x.keeper(1, 2), 1);
        Check.due(13, "first sold in year 1", x.piece(0, 3), 1);
        Check.due(13, "what -1", x.piece(0, -1), OldNews.BAD);
        Check.due(13, "what 5", x.piece(0, 5), OldNews.BAD);
        Check.due(13, "piece -1", x.piece(-1, 0), OldNews.BAD);
        Check.due(13, "the last piece", x.piece(1, 4), 60);
        Check.due(13, "piece 2", x.piece(2, 0), OldNews.BAD);
        OldNews now = Check.on("law old 3;worth 0 0;worth 3 30;worth 5 70;chest 0 0 0;keeper silent 1 1;news 0 0;");
        int[] worth = {0, 10, 20, 30, 50, 70, 70};
        for (int y = 0; y < worth.length; y++) {
            Check.due(13, "worth in year " + y, now.piece(0, 4), worth[y]);
            now.go(1, 1);
        }
    }
}
