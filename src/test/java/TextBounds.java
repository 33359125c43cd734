/** The bounds that promises 6 to 8 and "TEXTS", "FAULTS" of the terms name, from both sides. */
final class TextBounds {
    private static final String LAW = "law old 9;", WORTH = "worth 0 1;", CHEST = "chest 0 0 0;", KEEPER = "keeper now 0 1;";
    private static final String SHORT = LAW + WORTH + CHEST + KEEPER;

    private TextBounds() {
    }

    static void run() {
        oneToEightBytes();
        theLowestBytes();
        upToFiveHundred();
        theTapeIsEmptyThen();
        bytesOfTokens();
        gaps();
        fourFigures();
        last();
        points();
        chest();
        keepers();
        news();
        theEnd();
        whatCannotStandThere();
        theFirstTokenThatHasOne();
        ofOneTokenTheLeast();
        moreThanThereIsRoomFor();
        aLandStandsInPlaceOfTheOneBefore();
        oneLandBehindAnother();
        aFaultLeavesAll();
        theLatestFault();
    }

    /** A text is read: as many keepers. */
    private static OldNews read(String text, int keepers) {
        OldNews x = new OldNews();
        Check.due(7, text, Check.land(x, text), keepers);
        Check.due(8, text, x.fault(), 0);
        return x;
    }

    /** A text has a fault of a number at the token behind the sign ^. */
    private static void faulty(int number, String text) {
        int place = text.indexOf('^');
        OldNews x = new OldNews();
        Check.due(7, text, Check.land(x, text.substring(0, place) + text.substring(place + 1)), -1000100 - place);
        Check.due(8, text, x.fault(), number);
        Check.due(7, text + " is no land", x.count(1), 0);
    }

    private static void oneToEightBytes() {
        OldNews x = new OldNews();
        Check.due(6, "0 bytes", x.feed('a', 0), OldNews.BAD);
        Check.due(6, "9 bytes", x.feed('a', 9), OldNews.BAD);
        Check.due(6, "-1 bytes", x.feed('a', -1), OldNews.BAD);
        Check.due(6, "none came", x.count(5), 0);
        int sum = 0;
        for (int n = 1; n <= 8; n++) {
            sum += n;
            Check.due(6, n + " bytes", x.feed('a', n), sum);
            Check.due(6, n + " bytes", x.count(5), sum);
        }
    }

    private static void theLowestBytes() {
        for (int n = 1; n <= 8; n++) {
            OldNews x = new OldNews();
            // What is above the lowest n bytes is no text.
            for (int i = 0; i < SHORT.length(); i += n) {
                long w = -1;
                for (int j = 0; j < n; j++) {
                    w = w << 8 | (i + j < SHORT.length() ? SHORT.charAt(i + j) : ' ');
                }
                x.feed(w, n);
            }
            Check.due(6, "by " + n + ", the highest first", x.land(), 1);
        }
        OldNews x = new OldNews();
        x.feed(0x6c61772000000000L, 8);
        Check.due(6, "the highest of 8", x.land(), -1000104);
        x.feed(0x6c61772000000000L, 7);
        Check.due(6, "the 8th is left out", x.land(), -1000100);
        x.feed(0xff6c6177L, 4);
        Check.due(6, "a byte above 127", x.land(), -1000100);
        x.feed(0xff6c6177L, 3);
        Check.due(6, "it is left out", x.land(), -1000103);
    }

    private static void upToFiveHundred() {
        for (int n = 1; n <= 8; n++) {
            OldNews x = new OldNews();
            for (int i = 0; i < 500 / n; i++) {
                x.feed(-1, n);
            }
            int room = 500 % n;
            Check.due(6, "full but for " + room, x.count(5), 500 - room);
            Check.due(6, n + " more", x.feed(-1, n), OldNews.FULL);
            Check.due(6, "none comes", x.count(5), 500 - room);
            if (room > 0) {
                Check.due(6, room + " more", x.feed(-1, room), 500);
            }
            Check.due(6, "one more", x.feed(-1, 1), OldNews.FULL);
            Check.due(6, "500 stay", x.count(5), 500);
            Check.due(7, "and are read", x.land(), -1000100);
            Check.due(6, "there is room then", x.feed(-1, n), n);
        }
        OldNews x = read(SHORT + " ".repeat(499 - SHORT.length()) + "\n", 1);
        Check.due(7, "500 bytes were read", x.count(5), 0);
        OldNews y = new OldNews();
        String late = SHORT + " ".repeat(499 - SHORT.length()) + ";";
        Check.due(7, "the last of 500 bytes", Check.land(y, late), -1000599);
        Check.due(7, "the end of 500 bytes", Check.land(y, LAW + " ".repeat(490)), -1000600);
    }

    private static void theTapeIsEmptyThen() {
        OldNews x = new OldNews();
        Check.land(x, SHORT);
        Check.due(7, "behind a land", x.count(5), 0);
        Check.due(7, "nothing is read", x.land(), -1000100);
        Check.due(7, "the land stays", x.count(1), 1);
        Check.land(x, SHORT + ";");
        Check.due(7, "behind a fault", x.count(5), 0);
        Check.due(7, "what was fed before is gone", Check.land(x, SHORT + KEEPER), 2);
        Check.due(7, "a shorter text behind a longer one", Check.land(x, SHORT), 1);
    }

    private static void bytesOfTokens() {
        for (int b = 0; b < 256; b++) {
            String text = LAW + (char) b + WORTH + CHEST + KEEPER;
            if (b == ' ' || b == '\n') {
                read(text, 1);
            } else {
                faulty(1, LAW + '^' + (char) b + WORTH + CHEST + KEEPER);
            }
        }
        for (int b = 0; b < 256; b++) {
            // Behind a name a letter belongs to it: else it ends there.
            boolean ends = b == ' ' || b == '\n';
            boolean isLetter = b >= 'a' && b <= 'z';
            String text = "law" + (char) b + "old 9;" + WORTH + CHEST + KEEPER;
            if (ends) {
                read(text, 1);
            } else {
                faulty(1, isLetter ? "^" + text : "law^" + text.substring(3));
            }
        }
        for (int b = 0; b < 256; b++) {
            // Behind a number of one figure a second one belongs to it.
            String text = "law old 1" + (char) b + ";" + WORTH + CHEST + KEEPER;
            if (b == ' ' || b == '\n') {
                Check.due(7, text, read(text, 1).count(6), 1);
            } else if (b >= '0' && b <= '9') {
                Check.due(7, text, read(text, 1).count(6), 10 + b - '0');
            } else if (b == ';') {
                faulty(1, "law old 1;^;" + WORTH + CHEST + KEEPER);
            } else {
                faulty(1, "law old 1^" + (char) b + ";" + WORTH + CHEST + KEEPER);
            }
        }
    }

    private static void gaps() {
        read("law old 9;worth 0 1;chest 0 0 0;keeper now 0 1;", 1);
        read("law old9;worth0 1;chest0 0 0;keeper now0 1;", 1);
        read(" \n\n law \n old\n9 ; \nworth  0\n1\n;chest 0 0  0 ;\n keeper\nnow 0 1 ;\n \n", 1);
        read("\n" + SHORT, 1);
        read(SHORT + " ", 1);
        OldNews x = read(SHORT + "news5;news5 0;", 1);
        Check.due(7, "news without gaps", x.count(2), 2);
        faulty(1, "^lawold 9;");
        faulty(1, LAW + WORTH + CHEST + "^keepernow 0 1;");
        faulty(1, LAW + WORTH + "chest 0 00^;" + KEEPER);
        faulty(1, LAW + WORTH + CHEST + "keeper now 01^;");
        faulty(1, LAW + WORTH + CHEST + "keeper now^;0 1;");
        faulty(1, "law old 9 ^9;");
    }

    private static void fourFigures() {
        Check.due(7, "four figures", read("law old 9;worth 0000 9999;" + CHEST + KEEPER, 1).value(0), 9999);
        faulty(1, LAW + "worth 0 ^10000;");
        faulty(1, LAW + "worth 0 ^00001;");
        faulty(1, LAW + "worth ^00000 1;");
        faulty(1, "law old ^00009;");
        faulty(1, "law old ^0000000009;");
        // 9 more than 32 bits, and than 64 bits, can hold: it does not wrap around to 9.
        faulty(1, "law old ^4294967305;");
        faulty(1, "law old ^18446744073709551625;");
        faulty(1, "law old ^" + "9".repeat(491) + ";");
        faulty(1, "^" + "9".repeat(500));
        faulty(1, "^" + "a".repeat(500));
        Check.due(7, "noughts ahead", read("law old 0060;" + WORTH + CHEST + KEEPER, 1).count(6), 60);
        faulty(2, "law old ^0061;");
        faulty(1, SHORT + "news 0 ^00000;");
        faulty(1, SHORT + "^00000");
        read(SHORT + "news 0000 0000;", 1);
    }

    private static void last() {
        faulty(2, "law old ^0;");
        Check.due(7, "LAST 1", read("law old 1;" + WORTH + CHEST + KEEPER, 1).count(6), 1);
        Check.due(7, "LAST 60", read("law fresh 60;" + WORTH + CHEST + KEEPER, 1).count(6), 60);
        faulty(2, "law old ^61;");
        faulty(2, "law fresh ^0;");
        faulty(2, "law fresh ^61;");
        Check.due(7, "law old", read("law old 9;" + WORTH + CHEST + KEEPER, 1).count(7), 0);
        Check.due(7, "law fresh", read("law fresh 9;" + WORTH + CHEST + KEEPER, 1).count(7), 1);
    }

    private static void points() {
        OldNews x = read(LAW + "worth 0 0;worth 1 9999;worth 60 5;" + CHEST + KEEPER, 1);
        Check.due(7, "AGE 0, V 0", x.value(0), 0);
        Check.due(7, "V 9999, one above the one ahead", x.value(1), 9999);
        Check.due(7, "AGE 60", x.value(60), 5);
        Check.due(7, "AGE 60 is where it begins", x.value(59) > 5 ? 1 : 0, 1);
        Check.due(7, "points", x.count(3), 3);
        faulty(2, LAW + "worth ^61 0;");
        read(LAW + "worth 60 0;" + CHEST + KEEPER, 1);
        faulty(2, LAW + "worth 0 0;worth ^0 1;");
        faulty(2, LAW + "worth 5 0;worth ^5 1;");
        faulty(2, LAW + "worth 5 0;worth ^4 1;");
        faulty(2, LAW + "worth 5 0;worth 6 1;worth ^6 1;");
        faulty(2, LAW + "worth 60 0;worth ^60 1;");
        faulty(2, LAW + "worth 60 0;worth ^61 1;");
        faulty(1, LAW + "^" + CHEST);
        Check.due(7, "one point", read(SHORT, 1).count(3), 1);
        OldNews eight = read(LAW + many(8, "worth # 1#;") + CHEST + KEEPER, 1);
        Check.due(7, "eight points", eight.count(3), 8);
        Check.due(7, "the last of eight", eight.value(7), 17);
        faulty(3, LAW + many(8, "worth # 1#;") + "^worth 8 18;");
    }

    private static void chest() {
        for (String numbers : new String[] {"0 0 0", "500 20 999", "500 0 0", "0 20 0", "0 0 999"}) {
            read(LAW + WORTH + "chest " + numbers + ";" + KEEPER, 1);
        }
        faulty(2, LAW + WORTH + "chest ^501 0 0;");
        faulty(2, LAW + WORTH + "chest 0 ^21 0;");
        faulty(2, LAW + WORTH + "chest 0 0 ^1000;");
        OldNews x = read(LAW + "worth 0 60;chest 0 20 999;keeper now 0 2;news 0 0;", 1);
        x.go(1, 1);
        Check.due(7, "SPREAD 20", x.piece(0, 2), 20);
        Check.due(7, "COST 999", x.keeper(0, 0), 60 - 999);
        OldNews least = read(LAW + "worth 0 60;chest 0 0 0;keeper now 0 2;news 0 0;", 1);
        least.go(1, 1);
        Check.due(7, "SPREAD 0", least.piece(0, 2), 0);
        Check.due(7, "COST 0", least.keeper(0, 0), 60);
        // By LOST 500, of one copy 500 by 1000 are kept a year; by LOST 0 all are.
        Check.due(7, "LOST 500", read("law old 1;worth 0 1;worth 1 9000;chest 500 0 0;" + KEEPER, 1).alone(0, 1, 0), 4500);
        Check.due(7, "LOST 0", read("law old 1;worth 0 1;worth 1 9000;chest 0 0 0;" + KEEPER, 1).alone(0, 1, 0), 9000);
        faulty(1, LAW + WORTH + "^" + KEEPER);
        faulty(1, LAW + WORTH + CHEST + "^" + CHEST);
    }

    private static void keepers() {
        String head = LAW + WORTH + CHEST;
        String[] ways = {"now", "age", "watch", "copies", "silent"};
        for (int i = 0; i < ways.length; i++) {
            OldNews x = read(head + "keeper " + ways[i] + " 60 9;news 0 0;", 1);
            Check.due(7, "WAY " + ways[i], x.kind(0), i + 1);
            Check.due(7, "C 9", x.keeper(0, 10), 9);
            x = read(head + "keeper " + ways[i] + " 0 1;news 0 0;", 1);
            Check.due(7, "C 1", x.keeper(0, 10), 1);
            faulty(2, head + "keeper " + ways[i] + " ^61 1;");
            faulty(2, head + "keeper " + ways[i] + " 0 ^0;");
            faulty(2, head + "keeper " + ways[i] + " 0 ^10;");
            faulty(1, head + "keeper ^" + ways[i] + "s 0 1;");
            faulty(1, head + "keeper ^" + ways[i].substring(1) + " 0 1;");
        }
        Check.due(7, "N 0", read(head + "keeper age 0 1;", 1).ask(0, 1), 0);
        Check.due(7, "N 60", read(head + "keeper age 60 1;", 1).ask(0, 1), 600);
        faulty(1, head + "keeper ^later 0 1;");
        faulty(1, head + "^");
        faulty(1, head + "^news 0;");
        OldNews six = read(head + many(6, "keeper age # 1;"), 6);
        Check.due(7, "the last of six", six.ask(5, 1), 55);
        Check.due(7, "behind the last of six", six.kind(6), OldNews.BAD);
        faulty(3, head + many(6, "keeper age # 1;") + "^keeper age 6 1;");
    }

    private static void news() {
        OldNews none = read(SHORT, 1);
        Check.due(7, "no news", none.count(2), 0);
        Check.due(7, "no piece", none.piece(0, 0), OldNews.BAD);
        OldNews eight = read(SHORT + many(8, "news 9# 0;"), 1);
        Check.due(7, "eight news", eight.count(2), 8);
        Check.due(7, "the last of eight", eight.piece(7, 0), 97);
        Check.due(7, "behind the last of eight", eight.piece(8, 0), OldNews.BAD);
        faulty(3, SHORT + many(8, "news 9# 0;") + "^news 98 0;");
        Check.due(7, "USE 0", read(SHORT + "news 0;", 1).piece(0, 0), 0);
        Check.due(7, "USE 999", read(SHORT + "news 999;", 1).piece(0, 0), 999);
        faulty(2, SHORT + "news ^1000;");
        OldNews six = read(LAW + WORTH + CHEST + many(6, "keeper age # 2;") + "news 1 5;news 2 5 0;news 3 0 1 2 3 4 5;news 4;", 6);
        int[] seers = {1, 2, 6, 0};
        for (int p = 0; p < 4; p++) {
            Check.due(7, "who saw piece " + p, six.piece(p, 1), seers[p]);
        }
        Check.due(7, "who saw it has C", six.keeper(5, 10), 2);
        Check.due(7, "who did not has none", six.keeper(4, 10), 0);
        faulty(2, LAW + WORTH + CHEST + many(6, "keeper age # 2;") + "news 1 ^6;");
        faulty(2, SHORT + "news 1 ^1;");
        faulty(2, SHORT + "news 1 0 ^1;");
        Check.due(7, "one named often has C of it", read(SHORT + "news 1 0 0 0 0 0 0 0 0;", 1).keeper(0, 10), 1);
    }

    /** Each text of so many tokens, and then the end: a fault there, but where a text may end. */
    private static void theEnd() {
        String[] tokens = ("law old 9 ; worth 0 1 ; worth 3 4 ; chest 0 0 0 ; keeper now 0 1 ; keeper age 3 4 ; "
            + "news 7 0 1 ; news 8 ;").split(" ");
        StringBuilder text = new StringBuilder();
        int keepers = 0;
        for (int i = 0; i <= tokens.length; i++) {
            boolean mayEnd = keepers > 0 && tokens[i - 1].equals(";");
            for (String behind : new String[] {"", " ", " \n\n"}) {
                if (mayEnd) {
                    read(text + behind, keepers);
                } else {
                    faulty(1, text + behind + "^");
                }
            }
            if (i < tokens.length) {
                text.append(i == 0 ? "" : " ").append(tokens[i]);
                keepers += tokens[i].equals("keeper") ? 1 : 0;
            }
        }
    }

    /** At each token of a text: each other token in its place, but those that can stand there. */
    private static void whatCannotStandThere() {
        String[] tokens = "law old 9 ; worth 0 1 ; chest 0 0 0 ; keeper now 0 1 ; news 7 0 ; news 8 0 ;".split(" ");
        String[] may = {"law", "old fresh", "#", ";", "worth", "#", "#", ";", "chest worth", "#", "#", "#", ";", "keeper",
            "now age watch copies silent", "#", "#", ";", "keeper news", "#", "# ;", "# ;", "news", "#", "# ;", "# ;"};
        String[] others = {"law", "old", "fresh", "worth", "chest", "keeper", "now", "age", "watch", "copies", "silent", "news", "a",
            "7", "77777", ";", "#", "\t", ",", "\u00e9"};
        StringBuilder ahead = new StringBuilder();
        for (int i = 0; i < tokens.length; i++) {
            for (String other : others) {
                boolean can = other.equals("7") ? may[i].contains("#") : (" " + may[i] + " ").contains(" " + other + " ");
                if (!can || other.equals("#")) {
                    faulty(1, ahead + "^" + other + " " + String.join(" ", tokens));
                }
            }
            ahead.append(tokens[i]).append(' ');
        }
    }

    private static void theFirstTokenThatHasOne() {
        faulty(2, "law old ^61,");
        faulty(1, "law old^,61;");
        faulty(2, LAW + "worth ^61 x;");
        faulty(1, LAW + "worth ^x 61;");
        faulty(3, LAW + many(8, "worth # 1;") + "^worth 0 99999;");
        faulty(2, LAW + "worth ^99 1;" + many(9, "worth # 1;"));
        faulty(2, LAW + WORTH + "chest ^501 21 1000;");
        faulty(2, LAW + WORTH + "chest 500 ^21 1000;");
        faulty(1, LAW + WORTH + "chest 500 ^;21 1000;");
        faulty(2, SHORT + "news ^1000 1;#");
        faulty(1, "^# law old 61;");
    }

    private static void ofOneTokenTheLeast() {
        faulty(1, "law old ^99999;");
        faulty(1, LAW + "worth 5 1;worth ^00004 1;");
        faulty(1, SHORT + "news ^10000;");
        faulty(1, LAW + many(8, "worth # 1;") + CHEST + "^worth 8 1;");
        faulty(1, LAW + many(8, "worth # 1;") + "^worths 8 1;");
        faulty(1, LAW + WORTH + CHEST + many(6, "keeper age # 1;") + "news 1;^keeper age 6 1;");
        faulty(1, SHORT + many(8, "news # 0;") + "^keeper now 0 1;");
        faulty(1, SHORT + many(8, "news # 0;") + "^new 8 0;");
    }

    private static void moreThanThereIsRoomFor() {
        faulty(3, LAW + many(8, "worth # 1;") + " \n ^worth");
        faulty(3, LAW + many(8, "worth # 1;") + "^worth;");
        faulty(1, LAW + many(7, "worth # 1;") + "worth^;");
        faulty(3, LAW + WORTH + CHEST + many(6, "keeper age # 1;") + "^keeper");
        faulty(1, LAW + WORTH + CHEST + many(5, "keeper age # 1;") + "keeper^");
        faulty(3, SHORT + many(8, "news # 0;") + "^news;");
        faulty(1, SHORT + many(7, "news # 0;") + "news^;");
    }

    private static void aLandStandsInPlaceOfTheOneBefore() {
        OldNews x = Scene.told();
        x.restore(0);
        x.restore(1);
        x.land();
        int status = x.status(), fault = x.fault();
        Check.due(7, "another land", Check.land(x, LAW + "worth 0 60;chest 0 1 0;keeper now 3 2;keeper age 2 9;news 4 0;news 5 1;"), 2);
        Check.due(7, "year 0", x.count(4), 0);
        for (int k = 0; k < 2; k++) {
            Check.due(7, "nothing earned", x.keeper(k, 0), 0);
            Check.due(7, "nothing sold", x.keeper(k, 2), 0);
            Check.due(7, "nobody knows it", x.piece(k, 2), 0);
            Check.due(7, "never sold", x.piece(k, 3), OldNews.NONE);
            Check.due(7, "C of what he saw", x.keeper(k, 10 + k), k == 0 ? 2 : 9);
            Check.due(7, "none of what he did not see", x.keeper(k, 11 - k), 0);
        }
        Check.due(7, "no third keeper", x.keeper(2, 0), OldNews.BAD);
        Check.due(7, "no third piece", x.piece(2, 0), OldNews.BAD);
        Check.due(7, "rows stay", x.count(0), 4);
        Check.due(7, "status stays", x.status(), status);
        Check.due(8, "the fault stays", x.fault(), fault);
        Check.due(7, "images stay", x.restore(0), 1);
        Check.due(7, "images stay", x.count(4), 3);
        Check.due(7, "images stay", x.restore(1), 1);
        Check.due(7, "images stay", x.count(4), 1);
    }

    /** Lands of few and of many of each sort, of both laws, in every order of three: nothing of one is left in another. */
    private static void oneLandBehindAnother() {
        String[] texts = {"law fresh 60;" + many(8, "worth # 9#;") + "chest 500 20 999;" + many(6, "keeper copies 60 9;")
            + many(8, "news 9# 0 1 2 3 4 5;"), "law old 1;worth 0 5;chest 0 0 0;keeper now 0 1;",
            "law fresh 9;worth 3 7;worth 5 9;chest 0 0 0;keeper age 0 1;keeper age 0 1;news 3 1;",
            "law old 9;worth 3 8;worth 5 9;worth 6 6;chest 0 0 0;keeper age 0 1;keeper watch 0 1;news 3 0;news 4;"};
        int[][] counts = {{6, 8, 8, 0, 0, 60, 1}, {1, 0, 1, 0, 0, 1, 0}, {2, 1, 2, 0, 0, 9, 1}, {2, 2, 3, 0, 0, 9, 0}};
        int[] values = {97, 5, 7, 6};
        int[][] pieces = {{72, 72, 72, 72, 72, 72}, {0}, {0, 1}, {1, 0}};
        for (int order = 0; order < 64; order++) {
            OldNews x = new OldNews();
            int[] three = {order / 16, order / 4 % 4, order % 4};
            for (int i : three) {
                Check.due(7, "land " + i, Check.land(x, texts[i]), counts[i][0]);
                for (int what = 1; what < 8; what++) {
                    Check.due(7, "lands " + order + ", count " + what, x.count(what), counts[i][what - 1]);
                }
                Check.due(7, "lands " + order + ", V of 9", x.value(9), values[i]);
                for (int k = 0; k < 6; k++) {
                    boolean isThere = k < counts[i][0];
                    Check.due(7, "lands " + order + ", earned", x.keeper(k, 0), isThere ? 0 : OldNews.BAD);
                    Check.due(7, "lands " + order + ", sold", x.keeper(k, 2), isThere ? 0 : OldNews.BAD);
                    Check.due(7, "lands " + order + ", pieces", x.keeper(k, 1), isThere ? pieces[i][k] : OldNews.BAD);
                }
                x.go(1, 1);
            }
        }
    }

    private static void aFaultLeavesAll() {
        java.util.List<String> left = Scene.look(faultless());
        String[] faults = {"", "law old 61;", SHORT + "x", LAW + WORTH + CHEST + many(7, "keeper now # 1;"),
            LAW + many(8, "worth # 1#;") + CHEST + many(6, "keeper now # 1;") + "news 5 0 1 2 3 4 5;news 6 6;"};
        int[] numbers = {1, 2, 1, 3, 2};
        for (int i = 0; i < faults.length; i++) {
            OldNews x = faultless();
            Check.due(7, "a fault", Check.land(x, faults[i]) <= -1000100 ? 1 : 0, 1);
            java.util.List<String> seen = Scene.look(x);
            for (int j = 0; j < left.size(); j++) {
                String due = j == 1 ? "fault: " + numbers[i] : left.get(j);
                Check.due(7, faults[i] + " leaves " + due + ": " + seen.get(j), due.equals(seen.get(j)) ? 1 : 0, 1);
            }
        }
    }

    /** A scene whose tape has been read already: what a look feeds is then a text without a beginning. */
    private static OldNews faultless() {
        OldNews x = Scene.told();
        x.land();
        return x;
    }

    private static void theLatestFault() {
        OldNews x = new OldNews();
        Check.due(8, "before one", x.fault(), 0);
        Check.land(x, SHORT);
        Check.due(8, "a land is no fault", x.fault(), 0);
        Check.land(x, LAW + many(9, "worth # 1;"));
        Check.due(8, "of three", x.fault(), 3);
        Check.land(x, "law old 0;");
        Check.due(8, "of two", x.fault(), 2);
        Check.land(x, SHORT);
        Check.due(8, "a land leaves it", x.fault(), 2);
        x.land();
        Check.due(8, "of one", x.fault(), 1);
    }

    private static String many(int n, String text) {
        StringBuilder all = new StringBuilder();
        for (int i = 0; i < n; i++) {
            all.append(text.replace("#", "" + i));
        }
        return all.toString();
    }
}
