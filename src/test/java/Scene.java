import java.util.ArrayList;
import java.util.List;

/** Objects with something of everything in them, and all that later calls show of them. */
final class Scene {
    static final int STATUS = 3;

    /** What is on the tape of each scene, and what makes a text of it: six keepers by age, whose N are ITEMS. */
    private static final String FED = "law old 60;worth 0 7;";
    private static final String REST = "chest 0 0 0;keeper age 3 1;keeper age 1 1;keeper age 4 1;keeper age 1 1;keeper age 5 1;"
        + "keeper age 9 1;";
    private static final int[] ITEMS = {3, 1, 4, 1, 5, 9};
    private static final int ALL = 63;
    private static final String IMAGED = "law old 7;worth 2 30;worth 6 800;chest 90 1 3;keeper silent 2 3;keeper age 1 2;"
        + "news 7 0 1;news 8 1;news 9 0;";
    private static final String TOLD = "law fresh 12;worth 0 100;worth 5 900;worth 10 350;chest 200 2 7;keeper watch 6 4;"
        + "keeper copies 5 9;keeper now 8 2;news 40 0 1;news 50 1;news 60;";

    private Scene() {
    }

    /**
     * Rows 0 (bytes, 7), 1 (shorts, 6), 2 (ints, 40), 5 (bytes, none), the others missing; no land; a fault 2, a status 3
     * (of a row that is then laid anew), 21 bytes on the tape.
     */
    static OldNews bare() {
        OldNews x = new OldNews();
        Check.land(x, "law old 61;");
        layRows(x);
        Check.feed(x, FED);
        x.drop(4);
        return x;
    }

    /**
     * As bare(), with a land of keepers 0 (watch), 1 (copies, 9 of piece 0), 2 (now, none of piece 0), pieces 0, 1, 2 (which
     * nobody has), two years gone of LAST 12; both images; a trace of six.
     */
    static OldNews told() {
        OldNews x = new OldNews();
        Check.land(x, IMAGED);
        x.go(3, 4);
        x.image(0);
        Check.land(x, "law old 61;");
        Check.land(x, TOLD);
        x.tell(1, 1, 2);
        x.go(1, 99);
        x.image(1);
        x.go(1, 98);
        for (int i = 0; i < 9; i++) {
            x.tell(0, 0, 1);
        }
        layRows(x);
        Check.feed(x, FED);
        x.ask(1, 0);
        x.as(0, 5);
        return x;
    }

    /** A scene as bare(), but with a land, and image 1 of it. */
    static OldNews withOneImage() {
        OldNews x = bare();
        Check.feed(x, "chest 0 0 0;keeper now 3 1;news 8 0;");
        x.land();
        x.image(1);
        Check.feed(x, FED);
        return x;
    }

    private static void layRows(OldNews x) {
        x.row(0, 0, 7);
        x.row(1, 1, 6);
        x.row(2, 2, 40);
        x.row(5, 0, 0);
        for (int i = 0; i < ITEMS.length; i++) {
            x.set(0, i, ITEMS[i]);
            x.set(1, i, ITEMS[i]);
            x.set(2, i, ITEMS[i]);
            x.set(2, 34 + i, ITEMS[i]);
        }
        x.set(0, 6, ITEMS[0]);
    }

    /** All that later calls show, each with its name; the object is used up by it. */
    static List<String> look(OldNews x) {
        List<String> seen = new ArrayList<>();
        note(seen, "status", x.status());
        note(seen, "fault", x.fault());
        note(seen, "rows", x.count(0));
        note(seen, "bytes", x.count(5));
        for (int i = 0; i <= 16; i++) {
            note(seen, "trace " + i, x.trace(i));
        }
        lookAtLand(seen, "now", x);
        note(seen, "two years more", x.go(2, 77));
        lookAtLand(seen, "two years more", x);
        // Only behind these years, that a look does not hide what laws() itself would change.
        lookAtLaws(seen, "two years more", x);
        for (int k = 0; k < 2; k++) {
            note(seen, "restore " + k, x.restore(k));
            lookAtLand(seen, "restored " + k, x);
            lookAtLaws(seen, "restored " + k, x);
        }
        Check.feed(x, REST);
        note(seen, "the tape read", x.land());
        note(seen, "V of the tape", x.value(60));
        lookAtRows(seen, x);
        return seen;
    }

    private static void lookAtLand(List<String> seen, String when, OldNews x) {
        for (int what : new int[] {1, 2, 3, 4, 6, 7}) {
            note(seen, when + ", count " + what, x.count(what));
        }
        for (int a = 0; a < 3; a++) {
            note(seen, when + ", kind " + a, x.kind(a));
            for (int what : new int[] {0, 1, 2, 10, 11, 12}) {
                note(seen, when + ", keeper " + a + " " + what, x.keeper(a, what));
            }
            for (int what = 0; what < 5; what++) {
                note(seen, when + ", piece " + a + " " + what, x.piece(a, what));
            }
        }
        for (int age : new int[] {0, 2, 5, 8, 10, 12}) {
            note(seen, when + ", V of " + age, x.value(age));
        }
    }

    private static void lookAtLaws(List<String> seen, String when, OldNews x) {
        for (int law = 0; law < 2; law++) {
            note(seen, when + ", law " + law, x.laws(law));
        }
    }

    private static void lookAtRows(List<String> seen, OldNews x) {
        for (int row = 0; row < 3; row++) {
            note(seen, "first items of row " + row, x.fit(row, 0));
        }
        note(seen, "the last item of row 0", x.copy(0, 6, 0, 0, 1) + x.fit(0, 0));
        note(seen, "the last items of row 2", x.copy(2, 34, 2, 1, 6) + x.copy(2, 1, 2, 0, 6) + x.fit(2, 0));
        for (int row = 0; row < 3; row++) {
            note(seen, "the lane of row " + row, x.set(row, 0, 70000));
        }
        for (int row = 0; row < 8; row++) {
            note(seen, "items of row " + row, x.drop(row));
        }
    }

    private static void note(List<String> seen, String name, int answer) {
        seen.add(name + ": " + answer);
    }

    /** All that is seen is as it was left, but for what begins by one of these words. */
    static void isAsLeft(int promise, String told, List<String> seen, List<String> left, String... changed) {
        for (int i = 0; i < left.size(); i++) {
            boolean same = seen.get(i).equals(left.get(i));
            for (String word : changed) {
                same |= seen.get(i).startsWith(word);
            }
            Check.due(promise, told + " leaves " + left.get(i) + (same ? "" : ", not " + seen.get(i)), same ? 1 : 0, 1);
        }
    }

    /** That a look sees what it is there for. */
    static void isAsTold() {
        List<String> seen = look(told());
        String[] due = {"status: 3", "fault: 2", "rows: 4", "bytes: 21", "trace 0: 13", "trace 5: 20", "trace 6: -1000000",
            "now, count 1: 3", "now, count 4: 2", "now, keeper 1 10: 9", "now, keeper 2 10: 0", "now, keeper 2 2: 2",
            "now, piece 1 3: 0", "now, piece 2 1: 0", "two years more: 4", "restored 0, count 4: 3", "restored 1, count 4: 1",
            "the tape read: 6", "V of the tape: 7", "first items of row 0: " + ALL, "first items of row 1: " + ALL,
            "first items of row 2: " + ALL, "the last item of row 0: " + (1 + ALL), "the last items of row 2: " + (12 + ALL),
            "the lane of row 0: 112", "the lane of row 1: 4464", "the lane of row 2: 70000", "items of row 0: 7",
            "items of row 1: 6", "items of row 2: 40", "items of row 3: -1000011", "items of row 5: 0"};
        for (String line : due) {
            Check.due(0, "a scene shows " + line, seen.contains(line) ? 1 : 0, 1);
        }
        String[] bare = {"status: 1", "fault: 2", "rows: 4", "bytes: 21", "trace 0: -1000000", "now, count 1: 0",
            "now, keeper 0 0: -1000001", "two years more: -1000002", "restore 0: -1000002", "the tape read: 6"};
        List<String> seenBare = look(bare());
        for (String line : bare) {
            Check.due(0, "a bare scene shows " + line, seenBare.contains(line) ? 1 : 0, 1);
        }
    }
}
