/** Promises 14 to 16 and 20 to 23: marks, settings, which, joins, through, pedal, could. */
public final class PieceTest {
    private static final Check CHECK = new Check("PieceTest");
    private static final int MAX = Integer.MAX_VALUE;
    private static final int MIN = Integer.MIN_VALUE;

    public static void main(String[] args) {
        wrongPieces();
        marks();
        settingsOfColours();
        settingsOfSounds();
        settingsOfForty();
        which();
        whichOfManyMarks();
        joins();
        joinsByAir();
        through();
        pedal();
        couldByMarks();
        couldByLength();
        CHECK.finish();
    }

    /** A tape 0 of n places without marks, hum or hiss: sound 1, air 0, width 5. */
    private static HumTape plain(int n) {
        return Check.ran(new int[] {}, "", "rec " + n + ";");
    }

    private static void hear(HumTape x, int what, int... values) {
        for (int place = 0; place < values.length; place++) {
            CHECK.due("heard", true, x.heard(0, place, what, values[place]));
        }
    }

    private static void wrongPieces() {
        HumTape x = plain(20);
        int[][] wrong = {{-1, 0, 1}, {2, 0, 1}, {0, -1, 1}, {0, 2, 1}, {0, 0, 300}, {0, 300, 300}, {0, 299, 298},
            {MIN, 0, 0}, {MAX, 0, 0}, {0, MIN, MAX}, {0, MAX, MIN}, {0, 0, MAX}, {0, MIN, 0}};
        for (int[] p : wrong) {
            for (int what = 0; what < 3; what++) {
                CHECK.due("marks", -1, x.marks(p[0], p[1], p[2], what));
                CHECK.due("which", -1, x.which(p[0], p[1], p[2], 0, what));
                CHECK.due("joins", -1, x.joins(p[0], p[1], p[2], 5, what));
                CHECK.due("could", -1, x.could(p[0], p[1], p[2], what));
            }
            CHECK.due("settings", -1, x.settings(p[0], p[1], p[2]));
            CHECK.due("through", -1, x.through(p[0], p[1], p[2]));
        }
    }

    private static void marks() {
        HumTape x = plain(10);
        hear(x, 5, 7, 0, 9, 9, 0, 0, 99, 0, 0, 1);
        CHECK.due("how many", 5, x.marks(0, 0, 9, 0));
        int[] due = {0, 2, 3, 6, 9, -1, -1};
        for (int i = 0; i < due.length; i++) {
            CHECK.due("the i-th", due[i], x.marks(0, 0, 9, 1 + i));
        }
        CHECK.due("how many of a part", 3, x.marks(0, 1, 6, 0));
        CHECK.due("the first of a part", 2, x.marks(0, 1, 6, 1));
        CHECK.due("the last of a part", 6, x.marks(0, 1, 6, 3));
        CHECK.due("none such", -1, x.marks(0, 1, 6, 4));
        CHECK.due("none", 0, x.marks(0, 4, 5, 0));
        CHECK.due("one place", 1, x.marks(0, 6, 6, 0));
        CHECK.due("of blank ones", 0, x.marks(0, 10, 299, 0));
        CHECK.due("what -1", -1, x.marks(0, 0, 9, -1));
        CHECK.due("what MIN", -1, x.marks(0, 0, 9, MIN));
        CHECK.due("what MAX", -1, x.marks(0, 0, 9, MAX));
        CHECK.due("tape 1", 0, x.marks(1, 0, 299, 0));
    }

    /** A tape whose places have these widths, by the machines 0 .. 5 of widths 1 .. 6. */
    private static HumTape ofWidths(String widths) {
        HumTape x = new HumTape();
        StringBuilder story = new StringBuilder();
        for (int k = 0; k < 6; k++) {
            Check.machine(x, k, "width " + (k + 1) + ";");
        }
        for (int i = 0; i < widths.length(); i++) {
            if (i == 0 || widths.charAt(i) != widths.charAt(i - 1)) {
                story.append("machine ").append(widths.charAt(i) - '1').append(';');
            }
            story.append("rec 1;");
        }
        if (Check.story(x, 0, story.toString()) < 0) {
            throw new IllegalStateException(story.toString());
        }
        x.run(0);
        return x;
    }

    private static void dueSettings(int due, String widths) {
        HumTape x = ofWidths(widths);
        CHECK.due("settings of " + widths, due, x.settings(0, 0, widths.length() - 1));
    }

    private static void settingsOfColours() {
        dueSettings(1, "1");
        dueSettings(1, "1111");
        dueSettings(2, "12");
        dueSettings(2, "121");
        dueSettings(3, "1212");
        dueSettings(3, "12121");
        dueSettings(3, "123");
        dueSettings(3, "12321");
        dueSettings(4, "1234");
        dueSettings(4, "123231");
        dueSettings(7, "12341234");
        dueSettings(4, "1234321");
        dueSettings(2, "112211");
        dueSettings(3, "1122112211");
        dueSettings(4, "1213121");
        dueSettings(6, "123456");
        HumTape x = ofWidths("12321");
        CHECK.due("a part", 2, x.settings(0, 1, 3));
        CHECK.due("one place", 1, x.settings(0, 2, 2));
        CHECK.due("with a blank one", -1, x.settings(0, 0, 5));
        CHECK.due("blank ones", -1, x.settings(1, 0, 0));
    }

    private static void settingsOfSounds() {
        HumTape x = plain(6);
        hear(x, 0, 5, 0, 7, 7, 0, 99);
        CHECK.due("sounds are one colour, none another", 3, x.settings(0, 0, 5));
        CHECK.due("two sounds", 1, x.settings(0, 2, 3));
        HumTape y = ofWidths("121");
        y.heard(0, 2, 0, 0);
        CHECK.due("width and sound are one colour", 3, y.settings(0, 0, 2));
        hear(y, 0, 0, 0, 0);
        CHECK.due("all without sound", 2, y.settings(0, 0, 2));
    }

    private static void settingsOfForty() {
        HumTape x = plain(300);
        CHECK.due("40 places", 1, x.settings(0, 0, 39));
        CHECK.due("41 places", -1, x.settings(0, 0, 40));
        CHECK.due("300 places", -1, x.settings(0, 0, 299));
        for (int place = 0; place < 300; place += 2) {
            x.heard(0, place, 0, 0);
        }
        CHECK.due("40 in turns", 21, x.settings(0, 100, 139));
        CHECK.due("39 in turns", 20, x.settings(0, 101, 139));
        CHECK.due("the last 40", 21, x.settings(0, 260, 299));
    }

    private static void which() {
        HumTape x = plain(6);
        Check.machine(x, 0, "start 10;stop 20;wipe 30;lift 40;");
        Check.machine(x, 1, "start 11;stop 10;");
        hear(x, 5, 10, 20, 30, 40, 0, 77);
        CHECK.due("weight", 625, x.which(0, 0, 5, 0, 1));
        CHECK.due("weight", 5, x.which(0, 0, 5, 1, 1));
        CHECK.due("weight", 1, x.which(0, 0, 5, 2, 1));
        CHECK.due("odds", 985, x.which(0, 0, 5, 0, 0));
        CHECK.due("odds", 7, x.which(0, 0, 5, 1, 0));
        CHECK.due("odds", 1, x.which(0, 0, 5, 5, 0));
        CHECK.due("the mark of the last place", 25, x.which(0, 2, 3, 0, 1));
        CHECK.due("no marks: weight", 1, x.which(0, 4, 4, 0, 1));
        CHECK.due("no marks: odds", 166, x.which(0, 4, 4, 0, 0));
        CHECK.due("blank ones", 166, x.which(1, 0, 299, 3, 0));
        CHECK.due("machine 6", -1, x.which(0, 0, 5, 6, 0));
        CHECK.due("machine -1", -1, x.which(0, 0, 5, -1, 1));
        CHECK.due("what 2", -1, x.which(0, 0, 5, 0, 2));
        CHECK.due("what -1", -1, x.which(0, 0, 5, 0, -1));
        CHECK.due("machine MIN", -1, x.which(0, 0, 5, MIN, MAX));
    }

    private static void whichOfManyMarks() {
        HumTape x = plain(30);
        Check.machine(x, 0, "start 10;");
        Check.machine(x, 1, "stop 20;");
        Check.machine(x, 2, "stop 10;wipe 10;");
        for (int place = 0; place < 30; place++) {
            x.heard(0, place, 5, place % 2 == 0 ? 0 : place < 17 ? 10 : 20);
        }
        CHECK.due("the first eight marks count", 390625, x.which(0, 0, 29, 0, 1));
        CHECK.due("the ninth does not", 1, x.which(0, 0, 29, 1, 1));
        CHECK.due("5 once for each place", 390625, x.which(0, 0, 29, 2, 1));
        CHECK.due("odds", 499, x.which(0, 0, 29, 0, 0));
        CHECK.due("odds", 0, x.which(0, 0, 29, 1, 0));
        CHECK.due("from 2 on: seven and one", 78125, x.which(0, 2, 29, 0, 1));
        CHECK.due("from 2 on: seven and one", 5, x.which(0, 2, 29, 1, 1));
    }

    private static void joins() {
        HumTape x = plain(8);
        hear(x, 2, 10, 13, 13, -1, 63, 0, 5, 4);
        CHECK.due("by 0", 4, x.joins(0, 0, 7, 0, 0));
        int[] due = {1, 5, 6, 7, -1};
        for (int i = 0; i < due.length; i++) {
            CHECK.due("the i-th", due[i], x.joins(0, 0, 7, 0, 1 + i));
        }
        CHECK.due("by 1", 3, x.joins(0, 0, 7, 1, 0));
        CHECK.due("by 2", 3, x.joins(0, 0, 7, 2, 0));
        CHECK.due("by 3", 2, x.joins(0, 0, 7, 3, 0));
        CHECK.due("by 62", 1, x.joins(0, 0, 7, 62, 0));
        CHECK.due("by 62, the first", 5, x.joins(0, 0, 7, 62, 1));
        CHECK.due("by 63", 0, x.joins(0, 0, 7, 63, 0));
        CHECK.due("by 64", -1, x.joins(0, 0, 7, 64, 0));
        CHECK.due("by -1", -1, x.joins(0, 0, 7, -1, 0));
        CHECK.due("not at the first place of a piece", 2, x.joins(0, 5, 7, 0, 0));
        CHECK.due("one place", 0, x.joins(0, 5, 5, 0, 0));
        CHECK.due("one place, the first", -1, x.joins(0, 5, 5, 0, 1));
        CHECK.due("with blank ones", 4, x.joins(0, 0, 299, 0, 0));
        CHECK.due("what -1", -1, x.joins(0, 0, 7, 0, -1));
        CHECK.due("what MIN", -1, x.joins(0, 0, 7, 0, MIN));
        CHECK.due("what MAX", -1, x.joins(0, 0, 7, 0, MAX));
    }

    private static void joinsByAir() {
        HumTape x = plain(7);
        hear(x, 1, 3, 3, 4, -1, 5, 6, 6);
        CHECK.due("by air", 2, x.joins(0, 0, 6, 63, 0));
        CHECK.due("the first", 2, x.joins(0, 0, 6, 63, 1));
        CHECK.due("the second", 5, x.joins(0, 0, 6, 63, 2));
        hear(x, 2, 1, 9, 9, 9, 9, 20, 20);
        CHECK.due("by air or beat", 3, x.joins(0, 0, 6, 7, 0));
        CHECK.due("both count once", 5, x.joins(0, 0, 6, 7, 3));
    }

    private static void through() {
        HumTape x = plain(8);
        CHECK.due("no beats", 1, x.through(0, 0, 7));
        hear(x, 2, 10, 11, 12, 11, 10, 10, 9, 8);
        CHECK.due("all of it", 2, x.through(0, 0, 7));
        CHECK.due("a blank one", 0, x.through(0, 0, 8));
        x.heard(0, 3, 5, 9);
        CHECK.due("a mark within", 0, x.through(0, 0, 7));
        CHECK.due("a mark at the first", 2, x.through(0, 3, 7));
        CHECK.due("a mark at the last", 2, x.through(0, 0, 3));
        CHECK.due("a mark at the only one", 2, x.through(0, 3, 3));
        x.heard(0, 3, 5, 0);
        x.heard(0, 5, 1, -1);
        CHECK.due("one without air", 1, x.through(0, 0, 7));
        CHECK.due("those ahead of it", 2, x.through(0, 0, 4));
        x.heard(0, 6, 1, 2);
        CHECK.due("airs apart with none between", 1, x.through(0, 0, 6));
        CHECK.due("airs unlike", 0, x.through(0, 6, 7));
        HumTape y = plain(4);
        hear(y, 2, 10, 12, 13, 14);
        CHECK.due("a jump of 2", 0, y.through(0, 0, 3));
        CHECK.due("behind the jump", 2, y.through(0, 1, 3));
        y.heard(0, 0, 2, 11);
        CHECK.due("a jump of 1", 2, y.through(0, 0, 3));
        CHECK.due("blank", 0, y.through(1, 0, 0));
        HumTape z = Check.ran(new int[] {1, 2, 3}, "hum 1;width 9;", "erase 3;");
        CHECK.due("wiped ones have no air", 1, z.through(0, 0, 2));
    }

    private static void pedal() {
        HumTape x = new HumTape();
        int[] wrong = {-2, 100, MIN, MAX};
        for (int mark : wrong) {
            CHECK.due("no mark", false, x.pedal(mark, 5));
        }
        int[] wrongHolds = {0, -1, 301, MIN, MAX};
        for (int hold : wrongHolds) {
            CHECK.due("no hold", false, x.pedal(-1, hold));
        }
        CHECK.due("hold 1", true, x.pedal(-1, 1));
        CHECK.due("hold 300", true, x.pedal(-1, 300));
        for (int i = 0; i < 8; i++) {
            CHECK.due("a mark", true, x.pedal(99 - 14 * i, i));
            CHECK.due("it is there", false, x.pedal(99 - 14 * i, 0));
        }
        CHECK.due("there are eight", false, x.pedal(2, 0));
        CHECK.due("hold with eight", true, x.pedal(-1, 7));
        CHECK.due("none are told", true, x.pedal(0, MIN));
        CHECK.due("one again", true, x.pedal(99, MAX));
        CHECK.due("mark 1", true, x.pedal(1, 0));
    }

    private static void couldByMarks() {
        HumTape x = plain(8);
        CHECK.due("no marks", 1, x.could(0, 0, 7, 0));
        CHECK.due("no marks", 0, x.could(0, 0, 7, 1));
        hear(x, 5, 10, 20, 10, 0, 30, 20, 99, 0);
        CHECK.due("unlike marks", 4, x.could(0, 0, 7, 1));
        CHECK.due("could", 0, x.could(0, 0, 7, 0));
        x.pedal(10, 0);
        CHECK.due("one less", 3, x.could(0, 0, 7, 1));
        CHECK.due("a part", 1, x.could(0, 0, 3, 1));
        CHECK.due("the mark of the last place", 2, x.could(0, 0, 4, 1));
        x.heard(0, 7, 5, 1);
        CHECK.due("mark 1", 1, x.could(0, 7, 7, 1));
        x.heard(0, 7, 5, 0);
        CHECK.due("a part that could", 0, x.could(0, 2, 3, 1));
        CHECK.due("a part that could", 1, x.could(0, 2, 3, 0));
        x.pedal(20, 0);
        x.pedal(30, 0);
        x.pedal(99, 0);
        CHECK.due("none", 0, x.could(0, 0, 7, 1));
        CHECK.due("could", 1, x.could(0, 0, 7, 0));
        x.pedal(0, 0);
        CHECK.due("none are told", 4, x.could(0, 0, 7, 1));
        CHECK.due("what 2", -1, x.could(0, 0, 7, 2));
        CHECK.due("what -1", -1, x.could(0, 0, 7, -1));
        CHECK.due("what MAX", -1, x.could(0, 0, 7, MAX));
    }

    private static void couldByLength() {
        HumTape x = plain(8);
        hear(x, 0, 0, 0, 1, 0, 0, 0, 1, 0);
        CHECK.due("300 at first", 1, x.could(0, 0, 7, 0));
        x.pedal(-1, 3);
        CHECK.due("3", 1, x.could(0, 0, 7, 0));
        x.pedal(-1, 2);
        CHECK.due("2", 0, x.could(0, 0, 7, 0));
        CHECK.due("lacks is of marks alone", 0, x.could(0, 0, 7, 1));
        CHECK.due("2 for a part of the row", 1, x.could(0, 0, 4, 0));
        x.pedal(-1, 1);
        CHECK.due("1 for a part of the row", 0, x.could(0, 0, 4, 0));
        CHECK.due("blank ones are no row", 1, x.could(0, 6, 299, 0));
        x.pedal(0, 5);
        CHECK.due("300 again, not v", 1, x.could(0, 0, 7, 0));
        HumTape y = Check.ran(new int[] {}, "", "erase 300;");
        CHECK.due("300 of 300", 1, y.could(0, 0, 299, 0));
        y.pedal(-1, 299);
        CHECK.due("300 of 299", 0, y.could(0, 0, 299, 0));
        HumTape z = Check.ran(new int[] {}, "", "erase 2;at 3;erase 2;");
        z.pedal(-1, 2);
        CHECK.due("a blank one parts a row", 1, z.could(0, 0, 4, 0));
        z.pedal(0, 2);
        z.pedal(-1, 1);
        CHECK.due("rows of two", 0, z.could(0, 0, 4, 0));
    }
}
