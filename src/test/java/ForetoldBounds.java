/** The bounds that promises 14 to 25 and "3 FORETOLD" of the terms name, from both sides. */
final class ForetoldBounds {
    private static final int NULL = -1000011, PLACE = -1000012;
    private static final String FLAT = "law old 5;worth 0 100;chest 0 0 0;";

    private ForetoldBounds() {
    }

    static void run() {
        aloneUpToLast();
        aloneNoLess();
        keptByCopies();
        aloneInSixtyYears();
        overSeveralYears();
        pointsBehindLast();
        bestOfSeveral();
        twoUpToLast();
        twoByGain();
        twoByLoss();
        twoOfMuch();
        thinkOfNone();
        thinkWhenThatIsNone();
        lostUse();
        silenceForSoMany();
        silenceInYears();
        cornerOfSoMany();
        cornerForSoMany();
        cornerOfSeveral();
        cornerIsCut();
        makeOrNot();
        edge();
        fitOfOne();
        fitUpToLast();
        fitOfSoManyItems();
        fitOfSoManySets();
        fitAsTheyWouldHave();
        lawsUpToLast();
        lawsAsAtFirst();
        lawsLoseNothing();
        imagesOfTwo();
        restoredAsKept();
        restoredInAll();
    }

    /** A land of LAST 1: V in both years, LOST and COST. */
    private static OldNews twoYears(int v0, int v1, int lost, int cost) {
        return Check.on("law old 1;worth 0 " + v0 + ";worth 1 " + v1 + ";chest " + lost + " 0 " + cost + ";keeper now 0 1;");
    }

    private static void aloneUpToLast() {
        OldNews x = twoYears(100, 200, 500, 50);
        Check.due(14, "year -1", x.alone(-1, 1, 0), OldNews.BAD);
        Check.due(14, "year LAST", x.alone(1, 1, 0), 200);
        Check.due(14, "year LAST, when", x.alone(1, 1, 1), 1);
        Check.due(14, "behind LAST", x.alone(2, 1, 0), OldNews.BAD);
        Check.due(14, "no copy", x.alone(0, 0, 0), OldNews.BAD);
        Check.due(14, "one copy", x.alone(0, 1, 0), 100);
        Check.due(14, "nine copies in LAST cost nothing", x.alone(1, 9, 0), 200);
        Check.due(14, "nine copies", x.alone(0, 9, 0), 100);
        Check.due(14, "ten copies", x.alone(0, 10, 0), OldNews.BAD);
        Check.due(14, "what -1", x.alone(0, 1, -1), OldNews.BAD);
        Check.due(14, "what 2", x.alone(0, 1, 2), OldNews.BAD);
    }

    private static void aloneNoLess() {
        // Waiting with one copy: half of V in year 1.
        int[][] due = {{199, 0, 100}, {200, 0, 100}, {201, 0, 100}, {202, 1, 101}};
        for (int[] d : due) {
            OldNews x = twoYears(100, d[0], 500, 50);
            Check.due(14, "when waiting is " + d[0] / 2 + ", selling 100", x.alone(0, 1, 1), d[1]);
            Check.due(14, "its value", x.alone(0, 1, 0), d[2]);
        }
        // With two copies: 750 by 1000 of 202, less 50: 101; of 200: 100.
        Check.due(14, "two copies, by 1 more", twoYears(100, 202, 500, 50).alone(0, 2, 1), 1);
        Check.due(14, "two copies, no less", twoYears(100, 200, 500, 50).alone(0, 2, 1), 0);
        Check.due(14, "what a copy costs", twoYears(0, 200, 500, 150).alone(0, 2, 0), 0);
        Check.due(14, "what a copy costs, no less", twoYears(0, 200, 500, 150).alone(0, 2, 1), 0);
        Check.due(14, "below none", twoYears(0, 200, 500, 151).alone(0, 2, 0), 0);
        Check.due(14, "a copy costs less", twoYears(0, 200, 500, 149).alone(0, 2, 0), 1);
        Check.due(14, "a copy costs less", twoYears(0, 200, 500, 149).alone(0, 2, 1), 1);
        OldNews flat = Check.on(FLAT + "keeper now 0 1;");
        for (int y = 0; y <= 5; y++) {
            Check.due(14, "no less from " + y, flat.alone(y, 9, 1), y);
        }
    }

    private static void keptByCopies() {
        int[] half = {500, 750, 875, 938, 969, 985, 993, 997, 999};
        int[] third = {667, 890, 964, 989, 997, 1000, 1000, 1000, 1000};
        for (int c = 1; c <= 9; c++) {
            Check.due(14, "LOST 500, kept by " + c, twoYears(0, 1000, 500, 0).alone(0, c, 0), half[c - 1]);
            Check.due(14, "LOST 333, kept by " + c, twoYears(0, 1000, 333, 0).alone(0, c, 0), third[c - 1]);
            Check.due(14, "LOST 1, kept by " + c, twoYears(0, 1000, 1, 0).alone(0, c, 0), c == 1 ? 999 : 1000);
            Check.due(14, "LOST 0, kept by " + c, twoYears(0, 1000, 0, 0).alone(0, c, 0), 1000);
        }
        Check.due(14, "what is kept is cut", twoYears(0, 3, 500, 0).alone(0, 1, 0), 1);
        Check.due(14, "the most of it", twoYears(0, 9999, 1, 0).alone(0, 1, 0), 9989);
    }

    private static void aloneInSixtyYears() {
        OldNews x = Check.on("law old 60;worth 0 0;worth 60 6000;chest 0 0 1;keeper now 0 1;");
        Check.due(14, "from 0 on", x.alone(0, 1, 0), 6000);
        Check.due(14, "from 0 on, when", x.alone(0, 1, 1), 60);
        Check.due(14, "what a second copy costs", x.alone(0, 2, 0), 5940);
        Check.due(14, "year 60", x.alone(60, 2, 0), 6000);
        Check.due(14, "year 61", x.alone(61, 2, 0), OldNews.BAD);
        Check.due(15, "year 60", x.best(60), 1);
        Check.due(15, "year 61", x.best(61), OldNews.BAD);
        Check.due(16, "year 60", x.two(60, 0, 1), 3000);
        Check.due(16, "year 61", x.two(61, 0, 1), OldNews.BAD);
    }

    private static void overSeveralYears() {
        OldNews hill = Check.on("law old 2;worth 0 80;worth 1 100;worth 2 60;chest 0 0 0;keeper now 0 1;");
        Check.due(14, "selling is dearest in year 1", hill.alone(0, 1, 0), 100);
        Check.due(14, "selling is dearest in year 1", hill.alone(0, 1, 1), 1);
        OldNews dip = Check.on("law old 2;worth 0 80;worth 1 10;worth 2 100;chest 0 0 0;keeper now 0 1;");
        Check.due(14, "waiting is dearest", dip.alone(0, 1, 0), 100);
        Check.due(14, "waiting is dearest", dip.alone(0, 1, 1), 2);
        OldNews first = Check.on("law old 2;worth 0 150;worth 1 50;worth 2 200;chest 0 0 0;keeper now 0 1;");
        Check.due(16, "who waits in year 1", first.two(1, 0, 0), 0);
        Check.due(16, "sells in year 0", first.two(0, 0, 0), 1000);
        Check.due(16, "sells in year 0", first.two(0, 0, 1), 75);
        OldNews then = Check.on("law old 2;worth 0 50;worth 1 150;worth 2 200;chest 0 0 0;keeper now 0 1;");
        Check.due(16, "who sells in year 1", then.two(1, 0, 0), 1000);
        Check.due(16, "waits in year 0", then.two(0, 0, 0), 0);
        Check.due(16, "waits in year 0", then.two(0, 0, 1), 75);
    }

    private static void pointsBehindLast() {
        OldNews x = Check.on("law old 2;worth 0 100;worth 2 100;worth 3 9999;chest 0 0 0;keeper now 0 1;");
        Check.due(14, "LAST is the last", x.alone(0, 1, 0), 100);
        Check.due(14, "LAST is the last", x.alone(0, 1, 1), 0);
        Check.due(14, "in LAST", x.alone(2, 1, 0), 100);
        Check.due(15, "LAST is the last", x.best(0), 1);
        Check.due(16, "in LAST", x.two(2, 0, 1), 50);
        Check.due(16, "LAST is the last", x.two(0, 0, 1), 50);
        Check.due(21, "V of LAST", x.make(99, 0, 0), 1);
        Check.due(21, "V of LAST", x.make(100, 0, 0), 0);
    }

    private static void bestOfSeveral() {
        OldNews x = twoYears(0, 1000, 500, 0);
        Check.due(15, "year -1", x.best(-1), OldNews.BAD);
        Check.due(15, "the most by nine", x.best(0), 9);
        Check.due(15, "all alike in LAST", x.best(1), 1);
        Check.due(15, "behind LAST", x.best(2), OldNews.BAD);
        Check.due(15, "all alike when sold at once", twoYears(1000, 1000, 500, 0).best(0), 1);
        Check.due(15, "all alike by LOST 0", twoYears(0, 1000, 0, 0).best(0), 1);
        // LOST 1: 999 by one, 1000 by two and more.
        Check.due(15, "of several the least", twoYears(0, 1000, 1, 0).best(0), 2);
        // LOST 500: 500, 750 less 250: alike.
        Check.due(15, "one and two alike", twoYears(0, 1000, 500, 250).best(0), 1);
        Check.due(15, "two by 1 more", twoYears(0, 1000, 500, 249).best(0), 2);
        // 750 less 125, 875 less 250: alike.
        Check.due(15, "two and three alike", twoYears(0, 1000, 500, 125).best(0), 2);
        Check.due(15, "three by 1 more", twoYears(0, 1000, 500, 124).best(0), 3);
        // 997 less 14, 999 less 16, ahead of it 993 less 12, 985 less 10, 969 less 8, 938 less 6.
        Check.due(15, "by what each costs", twoYears(0, 1000, 500, 2).best(0), 8);
        Check.due(15, "by what each costs", twoYears(0, 1000, 500, 1).best(0), 9);
    }

    private static void twoUpToLast() {
        OldNews x = twoYears(101, 201, 0, 0);
        Check.due(16, "year -1", x.two(-1, 0, 0), OldNews.BAD);
        Check.due(16, "behind LAST", x.two(2, 0, 0), OldNews.BAD);
        for (int w : new int[] {0, 50, 100}) {
            Check.due(16, "LAST: both sell", x.two(1, w, 0), 1000);
            Check.due(16, "LAST: a half, cut", x.two(1, w, 1), 100);
        }
        Check.due(16, "w -1", x.two(0, -1, 0), OldNews.BAD);
        Check.due(16, "w 101", x.two(0, 101, 0), OldNews.BAD);
        Check.due(16, "what -1", x.two(0, 0, -1), OldNews.BAD);
        Check.due(16, "what 2", x.two(0, 0, 2), OldNews.BAD);
    }

    private static void twoByGain() {
        // WAIT is half of V in year 1, of which LOST may be gone.
        int[][] due = {{99, 200, 0, 100, 0, 100}, {100, 200, 0, 100, 0, 100}, {101, 200, 0, 100, 19, 100}, {101, 201, 0, 50, 1000, 50},
            {100, 200, 0, 0, 0, 100}, {101, 200, 0, 0, 1000, 50}, {50, 200, 500, 100, 0, 50}, {51, 200, 500, 100, 37, 50},
            {49, 200, 500, 100, 0, 50}, {0, 0, 0, 100, 0, 0}, {0, 1, 0, 100, 0, 0}, {1, 1, 0, 100, 500, 0}, {1, 1, 0, 99, 1000, 0}};
        for (int[] d : due) {
            OldNews x = twoYears(d[0], d[1], d[2], 7);
            String told = "V " + d[0] + ", " + d[1] + ", LOST " + d[2] + ", w " + d[3];
            Check.due(16, told + ": chance", x.two(0, d[3], 0), d[4]);
            Check.due(16, told + ": value", x.two(0, d[3], 1), d[5]);
        }
    }

    private static void twoByLoss() {
        // V 101: half of it is 50; GAIN 1. w 49: 49, LOSS -1; w 50: 50, LOSS 0; w 51: 51, LOSS 1.
        int[][] due = {{0, 1000, 50}, {49, 1000, 50}, {50, 1000, 50}, {51, 500, 75}, {52, 333, 84}, {100, 19, 100}};
        for (int[] d : due) {
            OldNews x = twoYears(101, 200, 0, 0);
            Check.due(16, "w " + d[0] + ": chance", x.two(0, d[0], 0), d[1]);
            Check.due(16, "w " + d[0] + ": value", x.two(0, d[0], 1), d[2]);
        }
    }

    private static void twoOfMuch() {
        int[][] due = {{2001, 4000, 100, 0, 2001}, {2001, 4000, 50, 1000, 1000}, {2000, 4000, 100, 0, 2000}, {9999, 0, 51, 990, 5049},
            {9999, 0, 50, 1000, 4999}, {9999, 0, 100, 666, 6669}};
        for (int[] d : due) {
            OldNews x = twoYears(d[0], d[1], 0, 0);
            Check.due(16, "V " + d[0] + ", " + d[1] + ", w " + d[2] + ": chance", x.two(0, d[2], 0), d[3]);
            Check.due(16, "V " + d[0] + ", " + d[1] + ", w " + d[2] + ": value", x.two(0, d[2], 1), d[4]);
        }
    }

    private static void thinkOfNone() {
        OldNews x = new OldNews();
        int[][] due = {{0, 0, 0, 0}, {1000, 1000, 0, 1000}, {0, 1000, 60, 0}, {1000, 0, 60, 1000}, {999, 0, 1, 999}, {999, 1, 0, 999},
            {999, 1, 1, 998}, {999, 1, 59, 940}, {999, 1, 60, 939}, {1, 1, 1, 0}, {1000, 1, 60, 1000}};
        for (int[] d : due) {
            Check.due(17, "think " + d[0] + " " + d[1] + " " + d[2], x.think(d[0], d[1], d[2]), d[3]);
        }
        int[][] bad = {{-1, 0, 0}, {1001, 0, 0}, {0, -1, 0}, {0, 1001, 0}, {0, 0, -1}, {0, 0, 61}};
        for (int[] b : bad) {
            Check.due(17, "think " + b[0] + " " + b[1] + " " + b[2], x.think(b[0], b[1], b[2]), OldNews.BAD);
        }
    }

    private static void thinkWhenThatIsNone() {
        OldNews x = new OldNews();
        Check.due(17, "by none", x.think(1000, 1000, 1), 0);
        Check.due(17, "by none, and on", x.think(1000, 1000, 60), 0);
        Check.due(17, "by 1: q is 999", x.think(999, 1000, 1), 0);
        Check.due(17, "by 1: p is 999", x.think(1000, 999, 1), 1000);
        Check.due(17, "by 1: p is 999, and on", x.think(1000, 999, 60), 1000);
        Check.due(17, "by 2", x.think(999, 999, 1), 499);
    }

    private static void lostUse() {
        OldNews x = Check.on(FLAT + "keeper now 0 1;news 0;news 999;");
        int[][] due = {{0, 0, 999, 0}, {1, 0, 999, 999 * 999}, {1, 999, 999, 0}, {1, 998, 999, 999}, {1, 0, 0, 0}, {1, 5, 6, 999}};
        for (int[] d : due) {
            Check.due(18, "piece " + d[0] + " from " + d[1] + " to " + d[2], x.lostUse(d[0], d[1], d[2]), d[3]);
        }
        int[][] bad = {{-1, 0, 1}, {2, 0, 1}, {1, -1, 1}, {1, 0, 1000}, {1, 1000, 1000}, {1, 6, 5}, {1, 0, -1}, {1, -1, -1}, {1, 999, 998}};
        for (int[] b : bad) {
            Check.due(18, "piece " + b[0] + " from " + b[1] + " to " + b[2], x.lostUse(b[0], b[1], b[2]), OldNews.BAD);
        }
    }

    private static void silenceForSoMany() {
        // From V 119 for m, to as much more as V for m less 1 is: for 2, 3, .. 8.
        int[][] due = {{59, 60}, {39, 20}, {29, 10}, {23, 6}, {19, 4}, {0, 19}, {0, 0}};
        for (int m = 2; m <= 8; m++) {
            OldNews x = Check.on("law old 9;worth 0 119;chest 0 " + (m - 2) + " 0;keeper now 0 1;keeper silent 0 1;keeper silent 0 1;"
                + "news 0 0 1;");
            x.go(1, 1);
            Check.due(19, "from, for " + m, x.silence(0, 1, 0, 0, 0), due[m - 2][0]);
            Check.due(19, "to, for " + m, x.silence(1, 0, 0, 0, 1), due[m - 2][1]);
            Check.due(19, "the third one does not have it", x.silence(0, 2, 0, 0, 0), OldNews.STATE);
            Check.due(19, "the third one does not have it", x.silence(2, 0, 0, 0, 0), OldNews.STATE);
            x.tell(0, 0, 2);
            Check.due(19, "he has it, for " + (m + 1), x.silence(0, 2, 0, 0, 0), m < 8 ? due[m - 1][0] : 0);
        }
    }

    private static void silenceInYears() {
        OldNews x = Check.on("law old 9;worth 0 100;worth 60 700;chest 0 0 0;keeper now 0 1;keeper silent 0 1;news 0 0 1;");
        Check.due(19, "year -1", x.silence(0, 1, 0, -1, 0), OldNews.BAD);
        Check.due(19, "year 0", x.silence(0, 1, 0, 0, 0), 50);
        Check.due(19, "year 1", x.silence(0, 1, 0, 1, 1), 55);
        Check.due(19, "year 999", x.silence(0, 1, 0, 999, 0), 350);
        Check.due(19, "year 1000", x.silence(0, 1, 0, 1000, 0), OldNews.BAD);
        Check.due(19, "what -1", x.silence(0, 1, 0, 0, -1), OldNews.BAD);
        Check.due(19, "what 2", x.silence(0, 1, 0, 0, 2), OldNews.BAD);
        Check.due(19, "alike", x.silence(0, 0, 0, 0, 0), OldNews.BAD);
        Check.due(19, "keeper 2", x.silence(2, 1, 0, 0, 0), OldNews.BAD);
        Check.due(19, "keeper 2", x.silence(1, 2, 0, 0, 0), OldNews.BAD);
        Check.due(19, "piece 1", x.silence(0, 1, 1, 0, 0), OldNews.BAD);
    }

    private static void cornerOfSoMany() {
        for (int others = 0; others <= 5; others++) {
            StringBuilder text = new StringBuilder("law old 9;worth 0 6000;chest 0 0 0;");
            StringBuilder news = new StringBuilder("news 0 5");
            for (int k = 0; k < 6; k++) {
                text.append("keeper silent ").append(10 * k).append(" 1;");
                news.append(k < others ? " " + k : "");
            }
            OldNews x = Check.on(text.append(news).append(';').toString());
            int sum = 0;
            for (int place = 0; place < others; place++) {
                int k = others - 1 - place;
                Check.due(20, others + " others, place " + place, x.corner(5, 0, 0, place), k);
                sum += 6000 / (others + 1) * (100 + 10 * place) * (100 + 10 * k) / 10000;
            }
            Check.due(20, others + " others, no more", x.corner(5, 0, 0, others), OldNews.NONE);
            Check.due(20, others + " others, far", x.corner(5, 0, 0, Integer.MAX_VALUE), OldNews.NONE);
            Check.due(20, others + " others, the sum", x.corner(5, 0, 0, -1), sum);
            Check.due(20, others + " others, place -2", x.corner(5, 0, 0, -2), OldNews.BAD);
            Check.due(20, "who does not have it", x.corner(4, 0, 0, -1), others == 5 ? 6000 / 6 * 100 * (100 + 50) / 10000 + fourOthers() : OldNews.STATE);
        }
    }

    /** What keepers 3, 2, 1, 0 ask of 1000 each behind keeper 5, N 10 times their numbers. */
    private static int fourOthers() {
        return 1000 * 110 * 130 / 10000 + 1000 * 120 * 120 / 10000 + 1000 * 130 * 110 / 10000 + 1000 * 140 * 100 / 10000;
    }

    private static void cornerForSoMany() {
        // Of V 600 for 2, 3, .. 7, by N 0: the other one asks all of it.
        int[] due = {300, 200, 150, 120, 100, 0};
        for (int m = 2; m <= 7; m++) {
            OldNews x = Check.on("law old 9;worth 0 600;worth 9 1500;chest 0 " + (m - 2) + " 0;keeper now 0 1;keeper silent 0 1;news 0 0 1;");
            x.go(1, 1);
            Check.due(20, "for " + m, x.corner(0, 0, 0, -1), due[m - 2]);
            Check.due(20, "who is bought, for " + m, x.corner(0, 0, 0, 0), 1);
            Check.due(20, "in year 9, for " + m, x.corner(0, 0, 9, -1), due[m - 2] * 5 / 2);
            Check.due(20, "in year 999, for " + m, x.corner(0, 0, 999, -1), due[m - 2] * 5 / 2);
            Check.due(20, "year 1000", x.corner(0, 0, 1000, -1), OldNews.BAD);
            Check.due(20, "year -1", x.corner(0, 0, -1, -1), OldNews.BAD);
        }
        OldNews most = Check.on("law old 9;worth 0 9999;chest 0 0 0;keeper now 0 1;keeper now 60 1;news 0 0 1;");
        Check.due(20, "N 60", most.corner(0, 0, 0, -1), 4999 * 160 / 100);
        Check.due(20, "N 0", most.corner(1, 0, 0, -1), 4999);
        OldNews lost = YearTests.seenByAll("500 0 0", "silent 0 1", "silent 0 1");
        lost.go(1, 1);
        Check.due(20, "one who lost it is not bought", lost.corner(0, 0, 0, 0), OldNews.NONE);
        Check.due(20, "one who lost it", lost.corner(1, 0, 0, 0), OldNews.STATE);
    }

    private static void cornerOfSeveral() {
        String keepers = "keeper silent 0 1;keeper silent 0 1;keeper silent 0 1;keeper silent 5 1;news 0 0 1 2 3;";
        OldNews alike = Check.on("law old 9;worth 0 4000;chest 0 0 0;" + keepers);
        for (int place = 0; place < 3; place++) {
            Check.due(20, "alike: by keepers", alike.corner(3, 0, 0, place), place);
        }
        OldNews dear = Check.on("law old 9;worth 0 4000;chest 0 0 0;" + keepers.replace("5 1", "0 1").replaceFirst("silent 0", "silent 5"));
        for (int place = 0; place < 3; place++) {
            Check.due(20, "who asks most is first, then by keepers", dear.corner(3, 0, 0, place), place);
        }
        OldNews last = Check.on("law old 9;worth 0 4000;chest 0 0 0;" + keepers);
        int[] order = {3, 1, 2};
        for (int place = 0; place < 3; place++) {
            Check.due(20, "who asks most is the last keeper", last.corner(0, 0, 0, place), order[place]);
        }
        OldNews none = Check.on("law old 9;worth 0 0;chest 0 0 0;" + keepers);
        for (int place = 0; place < 3; place++) {
            Check.due(20, "worth nothing: by keepers", none.corner(0, 0, 0, place), place + 1);
        }
    }

    private static void cornerIsCut() {
        // 3 each. N 27 first: 3 times 127 by 100 and 3 times 110 by 100: 3 and 3; N 27 behind: 3 and 3 times 110 127 by 10000: 4.
        OldNews x = Check.on("law old 9;worth 0 9;chest 0 0 0;keeper now 0 1;keeper age 27 2;keeper silent 20 3;news 1 0 1 2;");
        Check.due(20, "each is cut, not the sum", x.corner(2, 0, 0, -1), 6);
        Check.due(20, "by what is left", x.corner(2, 0, 0, 0), 1);
        // 1 each: 150 by 100 and 110 by 100, 1 and 165 by 100: alike when cut.
        OldNews alike = Check.on("law old 9;worth 0 3;chest 0 0 0;keeper now 0 1;keeper age 50 2;keeper silent 20 3;news 1 0 1 2;");
        Check.due(20, "alike when cut", alike.corner(2, 0, 0, -1), 2);
        Check.due(20, "alike when cut: by keepers", alike.corner(2, 0, 0, 0), 0);
        // 1 by 2, cut, ahead of all else.
        OldNews none = Check.on("law old 9;worth 0 1;chest 0 0 0;keeper now 60 1;keeper age 60 2;news 1 0 1;");
        Check.due(20, "worth less than 1", none.corner(0, 0, 0, -1), 0);
    }

    private static void makeOrNot() {
        // V of LAST is 400.
        OldNews x = twoYears(100, 400, 0, 0);
        int[][] due = {{399, 1000, 0, 1}, {399, 1000, 1, 0}, {400, 0, 0, 0}, {401, 0, 0, 0}, {99999, 1000, 99999, 0}, {0, 1000, 399, 1},
            {0, 1000, 400, 0}, {0, 1, 99999, 1}, {0, 5, 79999, 1}, {0, 5, 80000, 0}, {0, 0, 99999, 1}, {390, 500, 19, 1},
            {390, 500, 20, 0}, {390, 999, 10, 1}, {390, 999, 11, 0}};
        for (int[] d : due) {
            Check.due(21, "make " + d[0] + " " + d[1] + " " + d[2], x.make(d[0], d[1], d[2]), d[3]);
        }
        int[][] bad = {{-1, 0, 0}, {100000, 0, 0}, {0, -1, 0}, {0, 1001, 0}, {0, 0, -2}, {0, 0, 100000}, {-1, 0, -1}, {0, 1001, -1}};
        for (int[] b : bad) {
            Check.due(21, "make " + b[0] + " " + b[1] + " " + b[2], x.make(b[0], b[1], b[2]), OldNews.BAD);
        }
        int[][] fine = {{0, 0, 0}, {99999, 0, 0}, {0, 1000, 0}, {0, 0, 99999}, {0, 0, -1}, {99999, 1000, -1}};
        for (int[] f : fine) {
            Check.due(21, "make " + f[0] + " " + f[1] + " " + f[2] + " is told", x.make(f[0], f[1], f[2]) == OldNews.BAD ? 1 : 0, 0);
        }
        Check.due(21, "V of LAST by law fresh is V of 0", Check.on("law fresh 9;worth 0 5;worth 1 900;chest 0 0 0;keeper now 0 1;").make(4, 0, 0), 1);
        Check.due(21, "V of LAST by law fresh is V of 0", Check.on("law fresh 9;worth 0 5;worth 1 900;chest 0 0 0;keeper now 0 1;").make(5, 0, 0), 0);
    }

    private static void edge() {
        OldNews x = twoYears(0, 9999, 0, 0);
        int[][] due = {{9999, 0, 0}, {9999, 1000, 0}, {99999, 500, 0}, {9998, 1000, 1}, {9998, 999, 2}, {9998, 1, 1000}, {9998, 0, OldNews.NONE},
            {9900, 1, 99000}, {9899, 1, OldNews.NONE}, {0, 100, 99990}, {0, 99, OldNews.NONE}, {0, 1000, 9999}, {0, 101, 99000},
            {9990, 2, 4500}, {9989, 3, 3334}};
        for (int[] d : due) {
            Check.due(21, "edge of " + d[0] + " by " + d[1], x.make(d[0], d[1], -1), d[2]);
            if (d[2] > 0) {
                Check.due(21, "by the edge it does not pay", x.make(d[0], d[1], d[2]), 0);
                Check.due(21, "by 1 less it does", x.make(d[0], d[1], d[2] - 1), 1);
            }
            if (d[2] == OldNews.NONE) {
                Check.due(21, "it pays by the most", x.make(d[0], d[1], 99999), 1);
            }
        }
    }

    /** The sets that fit a row of years; how many of them is asked, too. */
    private static void fits(String what, OldNews x, int[] years, int... sets) {
        RowTests.fill(x, 6, years);
        Check.due(22, what + ", how many", x.fit(6, -1), sets.length);
        for (int i = 0; i < sets.length; i++) {
            Check.due(22, what + ", set " + i, x.fit(6, i), sets[i]);
        }
        Check.due(22, what + ", no more", x.fit(6, sets.length), OldNews.NONE);
        Check.due(31, what + ", no finding", x.status(), 0);
    }

    private static int[] years(int... years) {
        return years;
    }

    private static void fitOfOne() {
        OldNews age = Check.on(FLAT + "keeper age 3 1;");
        fits("nobody had it", age, years(-1), 0);
        fits("age, a year early", age, years(2));
        fits("age", age, years(3), 1);
        fits("age, a year late", age, years(4));
        OldNews now = Check.on(FLAT + "keeper now 3 1;");
        fits("now, in year 0", now, years(0), 1);
        fits("now, in year 1", now, years(1));
        fits("now, not", now, years(-1), 0);
        OldNews silent = Check.on(FLAT + "keeper silent 0 1;");
        fits("silent, not", silent, years(-1), 0, 1);
        fits("silent, in year 0", silent, years(0));
        fits("copies, of one", Check.on(FLAT + "keeper copies 3 1;"), years(0), 1);
        fits("copies, of two", Check.on(FLAT + "keeper copies 3 2;"), years(3), 1);
        fits("copies, of two, in year 0", Check.on(FLAT + "keeper copies 3 2;"), years(0));
    }

    private static void fitUpToLast() {
        OldNews last = Check.on(FLAT + "keeper age 5 1;");
        fits("in LAST", last, years(5), 1);
        fits("in LAST, not", last, years(-1), 0);
        OldNews behind = Check.on(FLAT + "keeper age 6 1;");
        fits("behind LAST, not", behind, years(-1), 0, 1);
        fits("behind LAST, in LAST", behind, years(5));
        RowTests.fill(behind, 6, 6);
        Check.due(22, "a year behind LAST", behind.fit(6, 0), OldNews.BAD);
        RowTests.fill(behind, 6, -2);
        Check.due(22, "a year below -1", behind.fit(6, 0), OldNews.BAD);
        OldNews sixty = Check.on("law old 60;worth 0 1;chest 0 0 0;keeper age 60 1;");
        fits("in year 60", sixty, years(60), 1);
        RowTests.fill(sixty, 6, 61);
        Check.due(22, "in year 61", sixty.fit(6, 0), OldNews.BAD);
        OldNews three = Check.on(FLAT + "keeper silent 5 1;keeper silent 5 1;keeper silent 5 1;");
        for (int k = 0; k < 3; k++) {
            for (int year : new int[] {-2, 6, Integer.MIN_VALUE, Integer.MAX_VALUE}) {
                RowTests.fill(three, 6, -1, -1, -1);
                three.set(6, k, year);
                Check.due(22, "keeper " + k + " in " + year, three.fit(6, -1), OldNews.BAD);
            }
        }
    }

    private static void fitOfSoManyItems() {
        OldNews x = Check.on(FLAT + "keeper age 1 1;keeper age 2 1;");
        x.row(0, 0, 0);
        Check.due(22, "no item for two", x.fit(0, -1), PLACE);
        x.row(0, 0, 1);
        Check.due(22, "one item for two", x.fit(0, -1), PLACE);
        x.set(0, 0, 99);
        Check.due(22, "one item for two, not a year", x.fit(0, -1), PLACE);
        fits("two items for two", x, years(1, 2), 3);
        fits("three items for two", x, years(1, 2, 99), 3);
        int[] forty = new int[40];
        java.util.Arrays.fill(forty, -9);
        forty[0] = 1;
        forty[1] = -1;
        fits("forty items for two", x, forty, 1);
        Check.due(22, "row 7, missing", x.fit(7, -1), NULL);
        Check.due(22, "row 8", x.fit(8, -1), OldNews.BAD);
        Check.due(22, "row -1", x.fit(-1, -1), OldNews.BAD);
    }

    private static void fitOfSoManySets() {
        StringBuilder text = new StringBuilder(FLAT);
        for (int k = 0; k < 6; k++) {
            text.append("keeper silent 0 1;");
        }
        OldNews x = Check.on(text.toString());
        RowTests.fill(x, 0, -1, -1, -1, -1, -1, -1);
        Check.due(22, "all sets", x.fit(0, -1), 64);
        for (int i = 0; i < 64; i++) {
            Check.due(22, "the least first", x.fit(0, i), i);
        }
        Check.due(22, "behind all sets", x.fit(0, 64), OldNews.NONE);
        Check.due(22, "far behind", x.fit(0, Integer.MAX_VALUE), OldNews.NONE);
        Check.due(22, "i -2", x.fit(0, -2), OldNews.BAD);
        x.set(0, 5, 0);
        Check.due(22, "no set", x.fit(0, -1), 0);
        Check.due(22, "the first of none", x.fit(0, 0), OldNews.NONE);
    }

    private static void fitAsTheyWouldHave() {
        OldNews x = Check.on("law old 5;worth 0 1;chest 500 20 999;keeper watch 5 9;keeper age 3 9;keeper copies 4 9;");
        fits("by himself, in his year", x, years(5, -1, -1), 1);
        fits("ahead of 3", x, years(2, 3, -1), 3);
        fits("ahead of 4", x, years(3, -1, 4), 5);
        fits("ahead of both", x, years(2, 3, 4), 7);
        fits("one of the set did not sell", x, years(-1, 3, -1), 2);
        fits("not ahead of 3", x, years(3, 3, -1));
        fits("without the one who sold", x, years(-1, -1, 4), 4);
        OldNews two = Check.on(FLAT + "keeper watch 9 1;keeper silent 0 1;keeper now 0 1;");
        fits("behind LAST, or not", two, years(-1, -1, 0), 4, 5, 6, 7);
    }

    private static void lawsUpToLast() {
        int[] ns = {0, 1, 2, 3};
        for (int n : ns) {
            OldNews x = Check.on("law old 2;worth 0 10;worth 2 30;chest 500 0 0;keeper age " + n + " 9;news 0 0;");
            Check.due(23, "old, in year " + n, x.laws(0), n > 2 ? 0 : 10 + 10 * n);
            Check.due(23, "fresh, in year " + n, x.laws(1), n > 2 ? 0 : 30 - 10 * n);
        }
        OldNews cost = Check.on("law old 1;worth 0 10;chest 500 0 1;keeper silent 0 9;keeper silent 0 2;news 0 0 1;");
        Check.due(23, "two years, nothing lost", cost.laws(0), -2 * 9);
        Check.due(23, "sixty-one years", Check.on("law old 60;worth 0 10;chest 1 0 1;keeper silent 0 2;news 0 0;").laws(1), -61);
        Check.due(23, "no news", Check.on("law old 60;worth 0 10;chest 1 1 1;keeper now 0 2;").laws(0), 0);
        Check.due(23, "law -1", cost.laws(-1), OldNews.BAD);
        Check.due(23, "law 2", cost.laws(2), OldNews.BAD);
    }

    private static void lawsAsAtFirst() {
        OldNews x = Check.on("law fresh 2;worth 0 60;chest 0 3 1;keeper now 0 1;keeper age 1 1;news 0 0;news 0 1;");
        int old = x.laws(0), fresh = x.laws(1);
        Check.due(23, "both alone", old, 120);
        x.tell(0, 0, 1);
        x.tell(1, 1, 0);
        Check.due(23, "who was told", x.laws(0), old);
        x.go(60, 1);
        Check.due(23, "what was sold, known, earned", x.laws(0), old);
        Check.due(23, "what was sold, known, earned", x.laws(1), fresh);
        Check.due(23, "the law stays", x.count(7), 1);
        Check.due(23, "the year stays", x.count(4), 60);
        OldNews lost = YearTests.seenByAll("500 0 0", "age 1 1", "silent 0 1");
        lost.go(1, 3);
        Check.due(23, "he had lost it", lost.keeper(0, 10), 0);
        Check.due(23, "as at first", lost.laws(0), 30);
    }

    private static void imagesOfTwo() {
        OldNews x = new OldNews();
        for (int k = 0; k < 2; k++) {
            Check.due(24, "image " + k + ", no land", x.image(k), OldNews.STATE);
            Check.due(25, "restore " + k + ", no image", x.restore(k), OldNews.STATE);
        }
        for (int k : new int[] {-1, 2, Integer.MIN_VALUE, Integer.MAX_VALUE}) {
            Check.due(24, "image " + k + ", no land", x.image(k), OldNews.BAD);
            Check.due(25, "restore " + k + ", no image", x.restore(k), OldNews.BAD);
        }
        Check.land(x, FLAT + "keeper now 0 1;");
        for (int k = 0; k < 2; k++) {
            Check.due(25, "restore " + k + ", no image", x.restore(k), OldNews.STATE);
            Check.due(24, "image " + k, x.image(k), 1);
            Check.due(25, "the other", x.restore(1), k == 1 ? 1 : OldNews.STATE);
            Check.due(25, "restore " + k, x.restore(k), 1);
        }
        Check.due(24, "image -1", x.image(-1), OldNews.BAD);
        Check.due(24, "image 2", x.image(2), OldNews.BAD);
        Check.due(25, "restore -1", x.restore(-1), OldNews.BAD);
        Check.due(25, "restore 2", x.restore(2), OldNews.BAD);
    }

    private static void restoredAsKept() {
        OldNews x = Check.on("law fresh 9;worth 0 60;chest 0 2 1;keeper now 0 2;keeper age 3 3;news 5 0 1;");
        x.image(0);
        x.go(1, 1);
        x.image(1);
        x.go(5, 1);
        x.tell(0, 0, 1);
        Check.due(25, "image 0", x.restore(0), 1);
        int[] first = {x.count(4), x.keeper(0, 0), x.keeper(0, 2), x.keeper(1, 10), x.piece(0, 2), x.piece(0, 3)};
        Check.dueAll(25, "as at first", first, 0, 0, 0, 3, 0, OldNews.NONE);
        x.go(3, 1);
        Check.due(25, "image 1", x.restore(1), 1);
        int[] then = {x.count(4), x.keeper(0, 0), x.keeper(0, 2), x.keeper(1, 10), x.piece(0, 2), x.piece(0, 3)};
        Check.dueAll(25, "a year later", then, 1, 29, 1, 3, 2, 0);
        Check.due(24, "an image of what was restored", x.image(0), 1);
        x.go(1, 1);
        x.restore(0);
        Check.due(24, "it stands in place of the one before", x.count(4), 1);
        Check.land(x, FLAT + "keeper silent 0 1;");
        x.image(1);
        Check.due(25, "of another land", x.restore(0), 1);
        Check.due(25, "of another land", x.count(1), 2);
        Check.due(25, "back", x.restore(1), 1);
        Check.due(25, "back", x.count(1), 1);
        Check.due(25, "back", x.count(6), 5);
        Check.due(25, "back", x.count(7), 0);
        Check.due(25, "back", x.kind(0), 5);
    }

    private static void lawsLoseNothing() {
        StringBuilder text = new StringBuilder("law old 60;worth 0 600;chest 500 0 1;");
        for (int k = 0; k < 6; k++) {
            text.append("keeper silent 0 9;");
        }
        for (int p = 0; p < 8; p++) {
            text.append("news 0 0 1 2 3 4 5;");
        }
        OldNews x = Check.on(text.toString());
        x.go(3, 1);
        Check.due(23, "of 6 keepers, 8 pieces, 9 of each", x.laws(0), -61 * 6 * 8 * 8);
        Check.due(23, "of 6 keepers, 8 pieces, 9 of each", x.laws(1), -61 * 6 * 8 * 8);
    }

    private static String most(String law, String chest, String way, int v, int c) {
        StringBuilder text = new StringBuilder("law " + law + ";");
        StringBuilder news = new StringBuilder();
        for (int i = 0; i < 8; i++) {
            text.append("worth ").append(i + v % 7).append(' ').append(v + 10 * i).append(';');
            news.append("news ").append(v + i).append(i == 7 ? " 0 1 5" : " " + i % 6).append(';');
        }
        text.append("chest ").append(chest).append(';');
        for (int k = 0; k < 6; k++) {
            text.append("keeper ").append(way).append(' ').append(k).append(' ').append(c).append(';');
        }
        return text.append(news).toString();
    }

    /** What was restored is compared with a land that was never left, and so are its next years. */
    private static void restoredInAll() {
        String[] texts = {most("fresh 20", "100 2 3", "age", 100, 4), most("old 30", "0 0 0", "copies", 500, 9),
            "law old 1;worth 0 1;chest 500 20 999;keeper silent 0 1;"};
        for (int one = 0; one < 3; one++) {
            for (int k = 0; k < 2; k++) {
                OldNews stayed = Check.on(texts[one]);
                stayed.go(2, 7);
                OldNews x = Check.on(texts[one]);
                x.go(2, 7);
                x.image(k);
                Check.land(x, texts[(one + 1) % 3]);
                x.go(1, 1);
                x.image(1 - k);
                Check.land(x, texts[(one + 2) % 3]);
                x.go(1, 1);
                Check.due(25, "restored", x.restore(k), 1);
                isTheSame("land " + one + ", image " + k, x, stayed);
                x.go(3, 9);
                stayed.go(3, 9);
                isTheSame("land " + one + ", image " + k + ", years later", x, stayed);
            }
        }
    }

    private static void isTheSame(String when, OldNews x, OldNews stayed) {
        for (int what : new int[] {1, 2, 3, 4, 6, 7}) {
            Check.due(25, when + ": count " + what, x.count(what), stayed.count(what));
        }
        for (int k = 0; k < 6; k++) {
            Check.due(25, when + ": kind " + k, x.kind(k), stayed.kind(k));
            Check.due(25, when + ": mark " + k, x.ask(k, 1), stayed.ask(k, 1));
            for (int what = 0; what < 18; what++) {
                Check.due(25, when + ": keeper " + k + " " + what, x.keeper(k, what), stayed.keeper(k, what));
            }
        }
        for (int p = 0; p < 8; p++) {
            for (int what = 0; what < 5; what++) {
                Check.due(25, when + ": piece " + p + " " + what, x.piece(p, what), stayed.piece(p, what));
            }
        }
        for (int age = 0; age < 12; age++) {
            Check.due(25, when + ": V of " + age, x.value(age), stayed.value(age));
        }
        for (int law = 0; law < 2; law++) {
            Check.due(25, when + ": law " + law, x.laws(law), stayed.laws(law));
            Check.due(25, when + ": alone", x.alone(0, 1 + law, 0), stayed.alone(0, 1 + law, 0));
        }
    }
}
