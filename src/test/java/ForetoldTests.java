/** Promises 14 to 25: what is foretold, and images. */
final class ForetoldTests {
    private static final String RISING = "law old 3;worth 0 100;worth 3 400;chest 100 0 10;keeper now 0 1;";

    private ForetoldTests() {
    }

    static void run() {
        alone();
        aloneWhen();
        best();
        two();
        twoAtEdges();
        think();
        lostUse();
        silence();
        corner();
        cornerOfFive();
        cornerCut();
        cornerRefused();
        make();
        fit();
        fitRefused();
        laws();
        images();
        nothingChanges();
    }

    private static void alone() {
        OldNews x = Check.on(RISING);
        int[][] values = {{291, 324, 360, 400}, {358, 372, 386, 400}, {337, 358, 379, 400}, {310, 340, 370, 400}};
        for (int c = 1; c <= 4; c++) {
            for (int y = 0; y <= 3; y++) {
                Check.due(14, "value of " + c + " from " + y, x.alone(y, c, 0), values[c - 1][y]);
                Check.due(14, "when " + c + " from " + y, x.alone(y, c, 1), 3);
            }
        }
        int[][] bad = {{-1, 1, 0}, {4, 1, 0}, {0, 0, 0}, {0, 10, 0}, {0, 1, -1}, {0, 1, 2}};
        for (int[] b : bad) {
            Check.due(14, "alone " + b[0] + " " + b[1] + " " + b[2], x.alone(b[0], b[1], b[2]), OldNews.BAD);
        }
        Check.due(14, "STATE is ahead of BAD", new OldNews().alone(-1, 0, 9), OldNews.STATE);
    }

    private static void aloneWhen() {
        OldNews fresh = Check.on("law fresh 3;worth 0 100;worth 3 400;chest 100 0 10;keeper now 0 1;");
        Check.due(14, "fresh, at once", fresh.alone(0, 1, 0), 400);
        Check.due(14, "fresh, at once", fresh.alone(0, 1, 1), 0);
        Check.due(14, "fresh, from 2", fresh.alone(2, 9, 0), 200);
        Check.due(14, "fresh, from 2", fresh.alone(2, 9, 1), 2);
        OldNews flat = Check.on("law old 5;worth 0 100;chest 0 0 0;keeper now 0 1;");
        Check.due(14, "no less is enough", flat.alone(1, 3, 1), 1);
        OldNews dear = Check.on("law old 5;worth 0 100;worth 5 105;chest 0 0 1;keeper now 0 1;");
        Check.due(14, "a copy costs what a year brings", dear.alone(0, 2, 1), 0);
        Check.due(14, "alone there is no cost", dear.alone(0, 1, 1), 5);
        // Waiting is dearer in years 1 and 2, selling in 0 and 3.
        OldNews beyond = Check.on("law old 3;worth 0 100;worth 3 400;worth 4 9999;chest 0 0 0;keeper now 0 1;");
        Check.due(14, "LAST is the last", beyond.alone(0, 1, 0), 400);
        Check.due(14, "LAST is the last", beyond.alone(0, 1, 1), 3);
        Check.due(16, "LAST is the last", beyond.two(3, 0, 1), 200);
        OldNews hill = Check.on("law old 4;worth 0 99;worth 1 10;worth 3 100;worth 4 1;chest 0 0 1;keeper now 0 1;");
        Check.due(14, "the first of several", hill.alone(0, 2, 1), 0);
        Check.due(14, "the next one", hill.alone(1, 2, 1), 3);
        Check.due(14, "the next one", hill.alone(1, 2, 0), 98);
    }

    private static void best() {
        OldNews x = Check.on(RISING);
        int[] best = {2, 2, 2, 1};
        for (int y = 0; y <= 3; y++) {
            Check.due(15, "best from " + y, x.best(y), best[y]);
        }
        OldNews free = Check.on("law old 3;worth 0 1;worth 3 1000;chest 500 0 0;keeper now 0 1;");
        Check.due(15, "copies for nothing", free.best(2), 9);
        OldNews cut = Check.on("law old 3;worth 0 1;worth 3 9;chest 500 0 0;keeper now 0 1;");
        // 9 times KEPT: 4, 6, 7, 8, 8, .. for 1, 2, 3, 4, 5 ..: 4 is the least of the greatest.
        Check.due(15, "of several the least", cut.best(2), 4);
        Check.due(15, "below", x.best(-1), OldNews.BAD);
        Check.due(15, "beyond", x.best(4), OldNews.BAD);
        Check.due(15, "STATE is ahead of BAD", new OldNews().best(-1), OldNews.STATE);
    }

    private static void two() {
        OldNews x = Check.on("law old 2;worth 0 100;chest 0 0 0;keeper now 0 1;");
        int[][] due = {{2, 100, 1000, 50}, {1, 100, 500, 75}, {0, 100, 333, 83}, {1, 60, 833, 58}, {0, 60, 807, 59},
            {0, 50, 1000, 50}, {1, 0, 1000, 50}};
        for (int[] d : due) {
            Check.due(16, "chance in " + d[0] + " by " + d[1], x.two(d[0], d[1], 0), d[2]);
            Check.due(16, "value in " + d[0] + " by " + d[1], x.two(d[0], d[1], 1), d[3]);
        }
        OldNews lost = Check.on("law old 2;worth 0 100;chest 200 0 0;keeper now 0 1;");
        Check.due(16, "chance by what is lost", lost.two(1, 100, 0), 545);
        Check.due(16, "value by what is lost", lost.two(1, 100, 1), 72);
        int[][] bad = {{-1, 0, 0}, {3, 0, 0}, {0, -1, 0}, {0, 101, 0}, {0, 0, -1}, {0, 0, 2}};
        for (int[] b : bad) {
            Check.due(16, "two " + b[0] + " " + b[1] + " " + b[2], x.two(b[0], b[1], b[2]), OldNews.BAD);
        }
        Check.due(16, "STATE is ahead of BAD", new OldNews().two(-1, 0, 0), OldNews.STATE);
    }

    private static void twoAtEdges() {
        OldNews none = Check.on("law old 2;worth 1 50;worth 2 101;chest 0 0 0;keeper now 0 1;");
        Check.due(16, "a half is cut", none.two(2, 100, 1), 50);
        Check.due(16, "no gain: chance", none.two(1, 100, 0), 0);
        Check.due(16, "no gain: value", none.two(1, 100, 1), 50);
        Check.due(16, "no gain, no loss: chance", none.two(1, 0, 0), 0);
        Check.due(16, "no gain, no loss: value", none.two(1, 0, 1), 50);
        OldNews gain = Check.on("law old 2;worth 1 51;worth 2 100;chest 0 0 0;keeper now 0 1;");
        Check.due(16, "some gain, no loss: chance", gain.two(1, 50, 0), 1000);
        Check.due(16, "some gain, no loss: value", gain.two(1, 50, 1), 25);
        // A loss of 51 times 52 by 100 (26), less 25: 1, as the gain is.
        Check.due(16, "some gain, some loss: chance", gain.two(1, 52, 0), 500);
        Check.due(16, "some gain, some loss: value", gain.two(1, 52, 1), 38);
    }

    private static void think() {
        int[][] due = {{500, 100, 0, 500}, {500, 100, 1, 473}, {500, 100, 3, 419}, {1000, 1000, 1, 0}, {1000, 1000, 0, 1000},
            {1000, 999, 60, 1000}, {1000, 0, 60, 1000}, {0, 1000, 60, 0}, {999, 1000, 1, 0}, {999, 999, 1, 499}};
        for (int[] d : due) {
            Check.due(17, "think " + d[0] + " " + d[1] + " " + d[2], new OldNews().think(d[0], d[1], d[2]), d[3]);
        }
        int[][] bad = {{-1, 0, 0}, {1001, 0, 0}, {0, -1, 0}, {0, 1001, 0}, {0, 0, -1}, {0, 0, 61}};
        for (int[] b : bad) {
            Check.due(17, "think " + b[0] + " " + b[1] + " " + b[2], new OldNews().think(b[0], b[1], b[2]), OldNews.BAD);
        }
    }

    private static void lostUse() {
        OldNews x = Check.on("law old 3;worth 0 100;chest 0 0 0;keeper now 0 1;news 7;news 999 0;");
        Check.due(18, "years", x.lostUse(0, 3, 8), 35);
        Check.due(18, "none", x.lostUse(0, 3, 3), 0);
        Check.due(18, "all", x.lostUse(1, 0, 999), 999 * 999);
        int[][] bad = {{-1, 0, 0}, {2, 0, 0}, {0, -1, 0}, {0, 0, 1000}, {0, 1000, 1000}, {0, 5, 4}};
        for (int[] b : bad) {
            Check.due(18, "lostUse " + b[0] + " " + b[1] + " " + b[2], x.lostUse(b[0], b[1], b[2]), OldNews.BAD);
        }
    }

    private static void silence() {
        OldNews x = Check.on("law old 9;worth 0 100;worth 9 190;chest 0 4 0;keeper now 0 1;keeper now 0 2;keeper now 0 3;"
            + "keeper now 0 1;news 1 0 1 2;news 1 3 0;");
        Check.due(19, "from, for three", x.silence(0, 1, 0, 0, 0), 33);
        Check.due(19, "to, for three", x.silence(2, 0, 0, 0, 1), 17);
        Check.due(19, "from, for two, in year 5", x.silence(3, 0, 1, 5, 0), 75);
        Check.due(19, "to, for two, in year 5", x.silence(0, 3, 1, 5, 1), 75);
        Check.due(19, "in year 999", x.silence(0, 3, 1, 999, 1), 95);
        int[][] bad = {{0, 0, 0, 0, 0}, {4, 1, 0, 0, 0}, {0, 4, 0, 0, 0}, {-1, 1, 0, 0, 0}, {0, -1, 0, 0, 0}, {0, 1, 2, 0, 0},
            {0, 1, -1, 0, 0}, {0, 1, 0, -1, 0}, {0, 1, 0, 1000, 0}, {0, 1, 0, 0, 2}, {0, 1, 0, 0, -1}, {0, 3, 0, 0, 2}};
        for (int[] b : bad) {
            Check.due(19, "silence " + java.util.Arrays.toString(b), x.silence(b[0], b[1], b[2], b[3], b[4]), OldNews.BAD);
        }
        Check.due(19, "the first has none", x.silence(3, 0, 0, 0, 0), OldNews.STATE);
        Check.due(19, "the other has none", x.silence(0, 3, 0, 0, 1), OldNews.STATE);
        x.go(1, 1);
        Check.due(19, "from, for seven", x.silence(0, 1, 0, 0, 0), 0);
        Check.due(19, "to, for seven", x.silence(0, 1, 0, 0, 1), 16);
        Check.due(19, "from, for six", x.silence(0, 3, 1, 0, 0), 16);
        Check.due(19, "to, for six", x.silence(0, 3, 1, 0, 1), 4);
    }

    private static void corner() {
        OldNews x = Check.on("law old 9;worth 0 1000;worth 9 1900;chest 0 2 0;keeper now 0 1;keeper age 50 2;keeper silent 20 3;"
            + "keeper now 60 1;keeper now 60 1;news 1 0 1 2 3;news 1 0;");
        int[] order = {1, 2, 0, OldNews.NONE};
        for (int place = 0; place < 4; place++) {
            Check.due(20, "place " + place, x.corner(3, 0, 0, place), order[place]);
        }
        // 250 each: times 100 150, 110 120, 120 100.
        Check.due(20, "the sum", x.corner(3, 0, 0, -1), 375 + 330 + 300);
        Check.due(20, "in year 9: 475 each", x.corner(3, 0, 9, -1), 712 + 627 + 570);
        Check.due(20, "of another: 3, 1, 2", x.corner(0, 0, 0, -1), 400 + 412 + 360);
        Check.due(20, "of another: 3, 1, 2", x.corner(0, 0, 0, 2), 2);
        Check.due(20, "none to buy", x.corner(0, 1, 0, -1), 0);
        Check.due(20, "none to buy", x.corner(0, 1, 0, 0), OldNews.NONE);
        x.go(1, 1);
        Check.due(20, "who knows counts: 166 each", x.corner(3, 0, 0, -1), 249 + 219 + 199);
        x.go(1, 1);
        Check.due(20, "for eight", x.corner(3, 0, 0, -1), 0);
        Check.due(20, "all alike: by keepers", x.corner(3, 0, 0, 0), 0);
        Check.due(20, "all alike: by keepers", x.corner(3, 0, 0, 2), 2);
    }

    private static void cornerOfFive() {
        OldNews x = Check.on("law old 9;worth 0 6000;chest 0 0 0;keeper now 0 1;keeper now 10 1;keeper now 20 1;keeper now 30 1;"
            + "keeper now 40 1;keeper now 60 1;news 1 0 1 2 3 4 5;news 1 2 4 0 5;");
        int[] order = {4, 3, 2, 1, 0};
        for (int place = 0; place < 5; place++) {
            Check.due(20, "of five, place " + place, x.corner(5, 0, 0, place), order[place]);
        }
        Check.due(20, "of five, no more", x.corner(5, 0, 0, 5), OldNews.NONE);
        Check.due(20, "of five, the sum", x.corner(5, 0, 0, -1), 1400 + 1430 + 1440 + 1430 + 1400);
        Check.due(20, "of three, the first", x.corner(2, 1, 0, 0), 5);
        Check.due(20, "of three, the last", x.corner(2, 1, 0, 2), 0);
        // 1500 each: 160 100, 140 110, 100 120.
        Check.due(20, "of three, the sum", x.corner(2, 1, 0, -1), 2400 + 2310 + 1800);
    }

    private static void cornerCut() {
        // 1 each: times 100 100 and 110 150 is 1 and 1, times 100 150 and 110 100 is 1 and 1.
        OldNews x = Check.on("law old 9;worth 0 3;chest 0 0 0;keeper now 0 1;keeper age 50 2;keeper silent 20 3;news 1 0 1 2;");
        Check.due(20, "each is cut", x.corner(2, 0, 0, -1), 2);
        Check.due(20, "of several the first", x.corner(2, 0, 0, 0), 0);
        Check.due(20, "of several the first", x.corner(2, 0, 0, 1), 1);
        // 3 each: 3 times 100 100, 110 127: 3, 4; 3 times 100 127, 110 100: 3, 3.
        OldNews y = Check.on("law old 9;worth 0 9;chest 0 0 0;keeper now 0 1;keeper age 27 2;keeper silent 20 3;news 1 0 1 2;");
        Check.due(20, "cut to less", y.corner(2, 0, 0, -1), 6);
        Check.due(20, "cut to less", y.corner(2, 0, 0, 0), 1);
        // 7 each: 7 times 100 103, 110 100: 7, 7; 7 times 100 100, 110 103: 7, 7.
        OldNews z = Check.on("law old 9;worth 0 21;chest 0 0 0;keeper now 0 1;keeper age 3 2;keeper silent 20 3;news 1 0 1 2;");
        Check.due(20, "alike when cut", z.corner(2, 0, 0, 0), 0);
    }

    private static void cornerRefused() {
        OldNews x = Check.on("law old 9;worth 0 1000;chest 0 2 0;keeper now 0 1;keeper age 50 2;news 1 0;");
        int[][] bad = {{2, 0, 0, 0}, {-1, 0, 0, 0}, {0, 1, 0, 0}, {0, -1, 0, 0}, {0, 0, -1, 0}, {0, 0, 1000, 0}, {0, 0, 0, -2},
            {1, 0, 0, -2}};
        for (int[] b : bad) {
            Check.due(20, "corner " + java.util.Arrays.toString(b), x.corner(b[0], b[1], b[2], b[3]), OldNews.BAD);
        }
        Check.due(20, "he does not have it", x.corner(1, 0, 0, 0), OldNews.STATE);
        Check.due(20, "a far place", x.corner(0, 0, 999, Integer.MAX_VALUE), OldNews.NONE);
        Check.due(20, "no land", new OldNews().corner(0, 0, 0, 0), OldNews.BAD);
    }

    private static void make() {
        OldNews x = Check.on(RISING);
        int[][] due = {{100, 500, 599, 1}, {100, 500, 600, 0}, {100, 500, -1, 600}, {100, 7, -1, 42858}, {100, 7, 42857, 1},
            {100, 7, 42858, 0}, {100, 4, -1, 75000}, {100, 3, -1, OldNews.NONE}, {300, 1, -1, OldNews.NONE}, {301, 1, -1, 99000},
            {100, 0, -1, OldNews.NONE}, {100, 0, 99999, 1}, {400, 0, -1, 0}, {400, 0, 0, 0}, {399, 0, 0, 1}, {399, 1000, -1, 1},
            {399, 999, -1, 2}, {99999, 1000, 99999, 0}, {99999, 0, -1, 0}, {0, 1000, -1, 400}, {0, 1000, 399, 1}, {0, 1000, 400, 0}};
        for (int[] d : due) {
            Check.due(21, "make " + d[0] + " " + d[1] + " " + d[2], x.make(d[0], d[1], d[2]), d[3]);
        }
        int[][] bad = {{-1, 0, 0}, {100000, 0, 0}, {0, -1, 0}, {0, 1001, 0}, {0, 0, -2}, {0, 0, 100000}};
        for (int[] b : bad) {
            Check.due(21, "make " + b[0] + " " + b[1] + " " + b[2], x.make(b[0], b[1], b[2]), OldNews.BAD);
        }
        Check.due(21, "STATE is ahead of BAD", new OldNews().make(-1, 0, 0), OldNews.STATE);
        OldNews fresh = Check.on("law fresh 3;worth 0 100;worth 3 400;chest 0 0 0;keeper now 0 1;");
        Check.due(21, "by law", fresh.make(99, 1000, -1), 1);
        Check.due(21, "by law", fresh.make(100, 1000, -1), 0);
    }

    private static int[] fitsOf(OldNews x, int... years) {
        x.row(3, 0, years.length);
        for (int k = 0; k < years.length; k++) {
            x.set(3, k, years[k]);
        }
        int[] sets = new int[Math.max(x.fit(3, -1), 0)];
        for (int i = 0; i < sets.length; i++) {
            sets[i] = x.fit(3, i);
        }
        Check.due(22, "no more", x.fit(3, sets.length), OldNews.NONE);
        Check.due(31, "no finding", x.status(), 0);
        return sets;
    }

    private static void fit() {
        OldNews x = Check.on("law old 5;worth 0 1;chest 500 9 99;keeper age 2 9;keeper watch 9 1;keeper now 0 1;news 1 2;");
        Check.dueAll(22, "none sold", fitsOf(x, -1, -1, -1), 0, 2);
        Check.dueAll(22, "one watched", fitsOf(x, 2, 1, -1), 3);
        Check.dueAll(22, "all", fitsOf(x, 2, 1, 0), 7);
        Check.dueAll(22, "one alone", fitsOf(x, 2, -1, -1), 1);
        Check.dueAll(22, "now", fitsOf(x, -1, -1, 0), 4, 6);
        Check.dueAll(22, "not so", fitsOf(x, 3, -1, -1));
        Check.dueAll(22, "not so early", fitsOf(x, 1, -1, -1));
        Check.dueAll(22, "not with the other", fitsOf(x, 2, 2, -1));
        Check.dueAll(22, "further items do not count", fitsOf(x, 2, -1, 0, 77, -9), 5);
        x.go(3, 1);
        x.tell(2, 0, 1);
        Check.dueAll(22, "whatever it is now", fitsOf(x, 2, -1, 0), 5);
        OldNews copies = Check.on("law old 5;worth 0 1;chest 500 0 0;keeper copies 4 1;keeper copies 4 2;keeper copies 6 9;");
        Check.dueAll(22, "by C, with no news", fitsOf(copies, 0, 4, -1), 3, 7);
        Check.dueAll(22, "in the last year", fitsOf(copies, -1, 4, -1), 2, 6);
        OldNews six = Check.on("law old 5;worth 0 1;chest 0 0 0;keeper silent 0 1;keeper silent 0 1;keeper silent 0 1;"
            + "keeper silent 0 1;keeper silent 0 1;keeper now 0 1;");
        Check.due(22, "many", fitsOf(six, -1, -1, -1, -1, -1, 0).length, 32);
        Check.due(22, "the last of many", six.fit(3, 31), 63);
    }

    private static void fitRefused() {
        OldNews x = Check.on("law old 5;worth 0 1;chest 0 0 0;keeper age 2 9;keeper watch 9 1;");
        x.row(3, 2, 2);
        Check.due(22, "row 8", x.fit(8, 0), OldNews.BAD);
        Check.due(22, "row below", x.fit(-1, 0), OldNews.BAD);
        Check.due(22, "i below", x.fit(3, -2), OldNews.BAD);
        Check.due(22, "BAD is ahead of NULL", x.fit(4, -2), OldNews.BAD);
        Check.due(22, "missing", x.fit(4, 0), -1000011);
        Check.due(31, "missing", x.status(), 1);
        x.set(3, 0, 6);
        Check.due(22, "a year behind LAST", x.fit(3, -1), OldNews.BAD);
        Check.due(31, "set", x.status(), 0);
        x.set(3, 0, -2);
        Check.due(22, "a year below", x.fit(3, -1), OldNews.BAD);
        x.row(5, 2, 1);
        x.set(5, 0, 99);
        Check.due(22, "PLACE is ahead of a year", x.fit(5, -1), -1000012);
        Check.due(31, "few items", x.status(), 2);
        Check.due(22, "a late BAD", x.fit(3, -1), OldNews.BAD);
        Check.due(31, "a late BAD is none", x.status(), 2);
        x.set(3, 0, -1);
        x.set(3, 1, 6);
        Check.due(22, "another year", x.fit(3, -1), OldNews.BAD);
        x.set(3, 1, 5);
        Check.due(22, "the last year", x.fit(3, -1), 0);
        Check.due(22, "a far one", x.fit(3, Integer.MAX_VALUE), OldNews.NONE);
        Check.due(22, "STATE is ahead of BAD", new OldNews().fit(-1, -2), OldNews.STATE);
    }

    private static void laws() {
        OldNews x = Check.on("law old 2;worth 0 0;worth 2 20;chest 500 1 1;keeper now 0 1;keeper age 2 3;news 0 0 1;");
        Check.due(23, "old", x.laws(0), 5 - 6);
        Check.due(23, "fresh", x.laws(1), 10 - 6);
        x.go(2, 1);
        x.tell(0, 0, 1);
        Check.due(23, "as at first", x.laws(0), 5 - 6);
        OldNews all = Check.on("law old 60;worth 0 600;chest 1 20 999;keeper silent 0 9;keeper silent 0 9;keeper silent 0 9;"
            + "keeper silent 0 9;keeper now 0 9;keeper now 0 9;news 0 0 1 2 3 4 5;news 0 0 1 2 3 4 5;news 0 0 1 2 3 4 5;"
            + "news 0 0 1 2 3 4 5;news 0 0 1 2 3 4 5;news 0 0 1 2 3 4 5;news 0 0 1 2 3 4 5;news 0 0 1 2 3 4 5;");
        all.go(1, 4);
        Check.due(23, "nothing is lost", all.laws(0), 16 * 100 - 61 * 6 * 64 * 999);
        Check.due(23, "law 2", x.laws(2), OldNews.BAD);
        Check.due(23, "law below", x.laws(-1), OldNews.BAD);
        Check.due(23, "STATE is ahead of BAD", new OldNews().laws(2), OldNews.STATE);
        OldNews fresh = Check.on("law fresh 2;worth 0 0;worth 2 20;chest 500 1 1;keeper now 0 1;keeper age 2 3;news 0 0 1;");
        Check.due(23, "both laws of a fresh one", fresh.laws(0), 5 - 6);
        Check.due(23, "both laws of a fresh one", fresh.laws(1), 10 - 6);
    }

    private static void images() {
        OldNews x = new OldNews();
        Check.due(24, "BAD is ahead of STATE", x.image(2), OldNews.BAD);
        Check.due(24, "below", x.image(-1), OldNews.BAD);
        Check.due(24, "no land", x.image(0), OldNews.STATE);
        Check.due(25, "BAD is ahead of STATE", x.restore(2), OldNews.BAD);
        Check.due(25, "below", x.restore(-1), OldNews.BAD);
        Check.due(25, "none was kept", x.restore(0), OldNews.STATE);
        Check.land(x, "law fresh 9;worth 0 100;worth 9 190;chest 300 1 2;keeper now 0 4;keeper age 3 9;news 7 0 1;news 8 1;");
        x.go(2, 5);
        int[] then = look(x);
        Check.due(24, "kept", x.image(0), 1);
        Check.due(25, "the other was not", x.restore(1), OldNews.STATE);
        x.go(4, 6);
        x.tell(1, 0, 0);
        int[] later = look(x);
        Check.due(24, "the other", x.image(1), 1);
        Check.land(x, "law old 3;worth 1 5;chest 0 0 0;keeper silent 7 1;news 9;");
        x.row(0, 0, 2);
        x.feed(0, 3);
        Check.due(25, "as it was then", x.restore(0), 1);
        Check.dueAll(25, "as it was then", look(x), then);
        Check.due(25, "rows stay", x.count(0), 1);
        Check.due(25, "the tape stays", x.count(5), 3);
        x.go(4, 6);
        x.tell(1, 0, 0);
        Check.dueAll(25, "it goes on just so", look(x), later);
        Check.due(25, "again", x.restore(0), 1);
        Check.dueAll(25, "an image stays", look(x), then);
        Check.due(25, "later", x.restore(1), 1);
        Check.dueAll(25, "later", look(x), later);
        Check.due(24, "in place of one", x.image(0), 1);
        x.restore(0);
        Check.dueAll(24, "in place of one", look(x), later);
    }

    /** All that can be seen of a land of 2 keepers and 2 pieces. */
    private static int[] look(OldNews x) {
        int[] seen = new int[40];
        int n = 0;
        for (int a = 0; a < 2; a++) {
            for (int what : new int[] {0, 1, 2, 10, 11}) {
                seen[n++] = x.keeper(a, what);
            }
            for (int what = 0; what < 5; what++) {
                seen[n++] = x.piece(a, what);
            }
            seen[n++] = x.kind(a);
            seen[n++] = x.ask(a, 1);
            seen[n++] = x.laws(a);
        }
        for (int what : new int[] {1, 2, 3, 4, 6, 7}) {
            seen[n++] = x.count(what);
        }
        for (int age = 0; age < 8; age++) {
            seen[n++] = x.value(age);
        }
        return seen;
    }

    private static void nothingChanges() {
        OldNews x = Check.on("law fresh 9;worth 0 100;worth 9 190;chest 300 1 2;keeper now 0 4;keeper age 3 9;news 7 0 1;news 8 1;");
        x.go(2, 5);
        int[] then = look(x);
        x.row(0, 0, 2);
        x.set(0, 1, 3);
        x.alone(0, 2, 0);
        x.best(0);
        x.two(0, 60, 0);
        x.silence(0, 1, 0, 3, 0);
        x.corner(1, 0, 3, -1);
        x.make(3, 4, -1);
        x.fit(0, -1);
        x.fit(0, 0);
        x.laws(0);
        x.laws(1);
        Check.dueAll(14, "what is foretold changes nothing", look(x), then);
    }
}
