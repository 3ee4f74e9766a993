/** Boundary cases of the Terms' pieces, and of promises 14 to 16 and 20 to 23. */
final class PieceEdges {
    private static final int MAX = Edge.MAX;
    private static final int MIN = Edge.MIN;
    private static final int[][] WRONG = {{-1, 0, 0}, {2, 0, 0}, {0, -1, 0}, {0, 1, 0}, {0, 299, 298}, {0, 0, 300},
        {0, 300, 300}, {MIN, 0, 0}, {MAX, 0, 0}, {0, MIN, 0}, {0, 0, MAX}, {0, MIN, MAX}, {0, MAX, MIN}};
    private final Edge e;

    private PieceEdges(Edge e) {
        this.e = e;
    }

    static void all(Edge e) {
        PieceEdges edges = new PieceEdges(e);
        edges.piece();
        edges.settingsDown();
        edges.weight();
        edges.odds();
        edges.jump();
        edges.joinsOfPiece();
        edges.throughPiece();
        edges.pedalAndFoot();
        edges.lacks();
        edges.marks();
        edges.marksNone();
        edges.settings();
        edges.which();
        edges.joins();
        edges.joinsNone();
        edges.through();
        edges.pedal();
        edges.pedalRefused();
        edges.could();
        edges.couldNone();
    }

    /** A tape 0 of n places without marks, hum or hiss: sound 1, air 0, width 5. */
    private static HumTape plain(int n) {
        return Check.ran(new int[] {}, "", "rec " + n + ";");
    }

    private static HumTape hear(HumTape x, int what, int... values) {
        for (int place = 0; place < values.length; place++) {
            if (!x.heard(0, place, what, values[place])) {
                throw new IllegalStateException("not heard: " + values[place]);
            }
        }
        return x;
    }

    private void piece() {
        e.ofTerms("A PIECE of a TAPE: PLACES a .. b.");
        HumTape x = plain(300);
        x.heard(0, 0, 5, 9);
        x.heard(0, 299, 5, 9);
        e.due("all of it", 2, x.marks(0, 0, 299, 0));
        e.due("the first place", 1, x.marks(0, 0, 0, 0));
        e.due("the last place", 1, x.marks(0, 299, 299, 0));
        e.due("all but these", 0, x.marks(0, 1, 298, 0));
    }

    private void settingsDown() {
        e.ofTerms("SETTINGS DOWN of a PIECE without blank ones (40 at most): the fewest strokes, one after another, each "
                + "on PLACES that follow one another, that leave the WIDTHS and whether there is SOUND (as one colour) of "
                + "each PLACE as they are.");
        HumTape x = plain(41);
        e.due("one place", 1, x.settings(0, 0, 0));
        e.due("40 of one colour", 1, x.settings(0, 0, 39));
        hear(x, 0, 1, 0, 99, 5, 0, 1);
        e.due("sounds are one colour", 1, x.settings(0, 2, 3));
        e.due("1 0 1 1 0 1", 3, x.settings(0, 0, 5));
        for (int place = 0; place < 41; place += 2) {
            x.heard(0, place, 0, 0);
            x.heard(0, Math.min(39, place + 1), 0, 7);
        }
        e.due("40 in turns", 21, x.settings(0, 0, 39));
        e.due("40 in turns from 1 on", 21, x.settings(0, 1, 40));
        HumTape y = new HumTape();
        Check.machine(y, 1, "width 1;");
        Check.machine(y, 2, "width 9;");
        Check.story(y, 0, "rec 9;machine 1;at 1;rec 1;machine 2;at 3;rec 1;machine 1;at 5;rec 3;machine 2;at 6;rec 1;");
        y.run(0);
        e.due("widths 5 1 5 9 5", 3, y.settings(0, 0, 4));
        e.due("widths 5 1 9 1 5", 3, y.settings(0, 4, 8));
        e.due("widths 5 1 5 9 5 1 9 1 5", 5, y.settings(0, 0, 8));
        y.heard(0, 7, 0, 0);
        e.due("widths 5 1 9 1 5, the second 1 without sound", 4, y.settings(0, 4, 8));
    }

    private void weight() {
        e.ofTerms("WHICH machine: WEIGHT of a MACHINE for a PIECE: for each PLACE with a MARK 5, if it is one of the "
                + "MACHINE's four, else 1, multiplied (of the first eight of these);");
        HumTape x = plain(20);
        Check.machine(x, 1, "start 1;stop 2;wipe 98;lift 99;");
        hear(x, 5, 1, 0, 2, 98, 99, 3, 0, 1, 1, 1, 1, 1);
        int[] due = {5, 5, 25, 125, 625, 625, 625, 3125, 15625, 78125, 78125, 78125};
        for (int b = 0; b < due.length; b++) {
            e.due("to " + b, due[b], x.which(0, 0, b, 1, 1));
        }
        e.due("eight of the machine's", 78125, x.which(0, 1, 11, 1, 1));
        x.heard(0, 5, 5, 2);
        e.due("eight of the machine's, of nine", 390625, x.which(0, 0, 11, 1, 1));
        e.due("a machine without marks", 1, x.which(0, 0, 11, 0, 1));
        e.due("a piece without marks", 1, x.which(0, 12, 19, 1, 1));
        e.due("a blank piece", 1, x.which(1, 0, 299, 5, 1));
    }

    private void odds() {
        e.ofTerms("ODDS of 1000 by all six.");
        HumTape x = plain(20);
        Check.machine(x, 5, "lift 7;");
        for (int k = 0; k < 6; k++) {
            e.due("without a mark: 1000 by 6", 166, x.which(0, 0, 19, k, 0));
        }
        x.heard(0, 0, 5, 7);
        e.due("5 of 10", 500, x.which(0, 0, 19, 5, 0));
        e.due("1 of 10", 100, x.which(0, 0, 19, 0, 0));
        for (int place = 0; place < 9; place++) {
            x.heard(0, place, 5, 7);
        }
        e.due("390625 of 390630", 999, x.which(0, 0, 19, 5, 0));
        e.due("1 of 390630", 0, x.which(0, 0, 19, 4, 0));
        for (int k = 0; k < 5; k++) {
            Check.machine(x, k, "start 7;");
        }
        e.due("all six alike, the most they can be", 166, x.which(0, 0, 19, 3, 0));
    }

    private void jump() {
        e.ofTerms("JUMP of a PLACE: how far its first BEAT is from that of the PLACE ahead (0 if one has none, or for "
                + "PLACE 0).");
        HumTape x = hear(plain(7), 2, 63, 0, 63, -1, 63, 62, 62);
        int[] due = {0, 63, 63, 0, 0, 1, 0};
        for (int place = 0; place < due.length; place++) {
            e.so(x, true, "jump=" + due[place], place, false);
        }
        e.so(x, true, "jump=0", 7, false);
        e.so(x, true, "jump=0", 299, false);
        x.heard(0, 1, 3, 63);
        e.so(x, true, "jump=63", 1, false);
        e.due("the place ahead may be outside of the piece", 0, x.joins(0, 1, 1, 0, 0));
    }

    private void joinsOfPiece() {
        e.ofTerms("JOINS of a PIECE by a bound: PLACES but the first one at which the AIR is unlike that ahead (both not "
                + "NONE), or JUMP is above the bound.");
        HumTape x = hear(hear(plain(6), 1, 0, 9, 9, -1, 0, 0), 2, 5, 5, 8, 8, 8, 12);
        int[][] due = {{0, 1, 2, 5}, {2, 1, 2, 5}, {3, 1, 5}, {4, 1}, {63, 1}};
        for (int[] row : due) {
            e.due("by " + row[0] + ", how many", row.length - 1, x.joins(0, 0, 5, row[0], 0));
            for (int i = 1; i < row.length; i++) {
                e.due("by " + row[0] + ", the " + i, row[i], x.joins(0, 0, 5, row[0], i));
            }
        }
        e.due("not the first one", 0, x.joins(0, 1, 1, 0, 0));
        e.due("not the first one of more", 1, x.joins(0, 1, 2, 0, 0));
        e.due("the last one", 5, x.joins(0, 3, 5, 3, 1));
        e.due("blank ones behind", 0, x.joins(0, 5, 299, 0, 0));
    }

    private void throughPiece() {
        e.ofTerms("THROUGH a PIECE: 0 if it has a JOIN by the bound 1, a MARK at a PLACE but the first and last one, or a "
                + "blank one; else 2 if all have an AIR and a first BEAT; else 1.");
        HumTape x = hear(plain(5), 2, 0, 1, 0, 1, 2);
        e.due("jumps of 1", 2, x.through(0, 0, 4));
        e.due("a blank one at the end", 0, x.through(0, 0, 5));
        e.due("blank ones alone", 0, x.through(1, 0, 0));
        e.due("one place", 2, x.through(0, 4, 4));
        hear(x, 5, 7, 0, 0, 0, 8);
        e.due("marks at the first and last one", 2, x.through(0, 0, 4));
        x.heard(0, 1, 5, 9);
        e.due("a mark at the second", 0, x.through(0, 0, 4));
        e.due("of two places it is the last", 2, x.through(0, 0, 1));
        e.due("the only one", 2, x.through(0, 1, 1));
        x.heard(0, 1, 5, 0);
        x.heard(0, 3, 5, 9);
        e.due("a mark at the last but one", 0, x.through(0, 0, 4));
        x.heard(0, 3, 5, 0);
        x.heard(0, 4, 2, 3);
        e.due("a jump of 2", 0, x.through(0, 0, 4));
        e.due("ahead of it", 2, x.through(0, 0, 3));
        e.due("behind it", 2, x.through(0, 4, 4));
        x.heard(0, 4, 2, -1);
        e.due("the last one without a beat", 1, x.through(0, 0, 4));
        x.heard(0, 4, 2, 1);
        x.heard(0, 0, 1, -1);
        e.due("the first one without an air", 1, x.through(0, 0, 4));
        x.heard(0, 2, 1, 9);
        e.due("an air unlike", 0, x.through(0, 0, 4));
        e.due("airs and no first air", 1, x.through(0, 0, 1));
    }

    private void pedalAndFoot() {
        e.ofTerms("PEDAL: told are up to eight MARKS that a pedal leaves, and how many PLACES a foot can hold it "
                + "(1 .. 300).");
        HumTape x = plain(9);
        hear(x, 5, 1, 2, 3, 4, 5, 6, 7, 99, 98);
        int[] told = {1, 2, 3, 4, 5, 6, 7, 99};
        for (int i = 0; i < 8; i++) {
            e.due("lacks with " + i, 9 - i, x.could(0, 0, 8, 1));
            e.due("pedal " + told[i], true, x.pedal(told[i], 0));
        }
        e.due("a ninth", false, x.pedal(98, 0));
        e.due("lacks with eight", 1, x.could(0, 0, 8, 1));
        e.due("hold 1", true, x.pedal(-1, 1));
        e.due("hold 300", true, x.pedal(-1, 300));
        e.due("hold 0", false, x.pedal(-1, 0));
        e.due("hold 301", false, x.pedal(-1, 301));
    }

    private void lacks() {
        e.ofTerms("LACKS of a PIECE: how many unlike MARKS it has that a pedal does not leave; COULD: 1, if none, and no row "
                + "of PLACES without SOUND (not blank) is longer than that; else 0.");
        HumTape x = hear(plain(6), 5, 1, 99, 1, 0, 99, 50);
        e.due("unlike ones", 3, x.could(0, 0, 5, 1));
        e.due("of one place", 1, x.could(0, 5, 5, 1));
        e.due("of none", 0, x.could(0, 3, 3, 1));
        e.due("could of one with a mark", 0, x.could(0, 5, 5, 0));
        e.due("could of one without", 1, x.could(0, 3, 3, 0));
        HumTape y = Check.ran(new int[] {}, "", "erase 300;");
        y.pedal(-1, 299);
        e.due("299 for 300", 0, y.could(0, 0, 299, 0));
        e.due("299 for 299", 1, y.could(0, 1, 299, 0));
        y.heard(0, 150, 0, 1);
        y.pedal(-1, 150);
        e.due("150 for 150 and 149", 1, y.could(0, 0, 299, 0));
        y.pedal(-1, 149);
        e.due("149 for 150", 0, y.could(0, 0, 299, 0));
        e.due("149 for a row of 149 at the end", 1, y.could(0, 150, 299, 0));
        HumTape z = Check.ran(new int[] {}, "", "erase 1;at 2;erase 1;");
        z.pedal(-1, 1);
        e.due("blank ones are in no row", 1, z.could(0, 0, 299, 0));
        e.due("blank ones alone", 1, z.could(1, 0, 299, 0));
    }

    private void marks() {
        e.of(14, "MARKS of a PIECE: what 0 how many, 1 + i the PLACE of the i-th (from 0).");
        HumTape x = plain(300);
        e.due("none", 0, x.marks(0, 0, 299, 0));
        int[] places = {0, 1, 150, 298, 299};
        for (int place : places) {
            x.heard(0, place, 5, place == 0 ? 99 : 1);
        }
        e.due("how many", 5, x.marks(0, 0, 299, 0));
        for (int i = 0; i < places.length; i++) {
            e.due("the " + i + "-th", places[i], x.marks(0, 0, 299, 1 + i));
        }
        e.due("of a part", 150, x.marks(0, 2, 298, 1));
        e.due("the last of a part", 298, x.marks(0, 2, 298, 2));
        e.due("blank ones", 0, x.marks(1, 0, 299, 0));
        for (int place = 0; place < 300; place++) {
            x.heard(0, place, 5, 1);
        }
        e.due("all of them", 300, x.marks(0, 0, 299, 0));
        e.due("the 299th", 299, x.marks(0, 0, 299, 300));
    }

    private void marksNone() {
        e.of(14, "NONE if one can't be, there is none such, or another what.");
        HumTape x = hear(plain(3), 5, 1, 0, 1);
        for (int[] w : WRONG) {
            for (int what = 0; what < 2; what++) {
                e.due("marks(" + w[0] + ", " + w[1] + ", " + w[2] + ", " + what + ")", -1,
                        x.marks(w[0], w[1], w[2], what));
            }
        }
        e.due("the third of two", -1, x.marks(0, 0, 2, 3));
        e.due("the first of none", -1, x.marks(0, 1, 1, 1));
        e.due("the second of a part", -1, x.marks(0, 0, 1, 2));
        e.due("what -1", -1, x.marks(0, 0, 2, -1));
        e.due("what MIN", -1, x.marks(0, 0, 2, MIN));
        e.due("what MAX", -1, x.marks(0, 0, 2, MAX));
    }

    private void settings() {
        e.of(15, "SETTINGS DOWN of a PIECE; NONE if one can't be (a blank one; more than 40).");
        HumTape x = plain(60);
        e.due("40 places", 1, x.settings(0, 0, 39));
        e.due("the last 40", 1, x.settings(0, 20, 59));
        e.due("41 places", -1, x.settings(0, 0, 40));
        e.due("300 places", -1, x.settings(0, 0, 299));
        e.due("a blank one at the end", -1, x.settings(0, 59, 60));
        e.due("a blank one alone", -1, x.settings(1, 299, 299));
        for (int[] w : WRONG) {
            e.due("settings(" + w[0] + ", " + w[1] + ", " + w[2] + ")", -1, x.settings(w[0], w[1], w[2]));
        }
        HumTape y = Check.ran(new int[] {}, "", "rec 2;at 3;rec 2;");
        e.due("a blank one within", -1, y.settings(0, 0, 4));
        e.due("ahead of it", 1, y.settings(0, 0, 1));
        HumTape z = Check.ran(new int[] {}, "", "at 1;rec 2;");
        e.due("a blank one at the beginning", -1, z.settings(0, 0, 2));
    }

    private void which() {
        e.of(16, "Of a MACHINE for a PIECE what 0 ODDS, 1 WEIGHT; NONE if one can't be, or another what.");
        HumTape x = hear(plain(3), 5, 1, 2, 3);
        Check.machine(x, 0, "start 1;stop 2;");
        Check.machine(x, 5, "lift 3;");
        e.due("odds of 0", 735, x.which(0, 0, 2, 0, 0));
        e.due("weight of 0", 25, x.which(0, 0, 2, 0, 1));
        e.due("odds of 5", 147, x.which(0, 0, 2, 5, 0));
        e.due("weight of 5", 5, x.which(0, 0, 2, 5, 1));
        int[] wrongMachines = {-1, 6, MIN, MAX};
        int[] wrongWhats = {-1, 2, MIN, MAX};
        for (int k : wrongMachines) {
            e.due("machine " + k + ", odds", -1, x.which(0, 0, 2, k, 0));
            e.due("machine " + k + ", weight", -1, x.which(0, 0, 2, k, 1));
        }
        for (int what : wrongWhats) {
            e.due("what " + what, -1, x.which(0, 0, 2, 0, what));
        }
        for (int[] w : WRONG) {
            e.due("which(" + w[0] + ", " + w[1] + ", " + w[2] + ", 0, 0)", -1, x.which(w[0], w[1], w[2], 0, 0));
            e.due("which(" + w[0] + ", " + w[1] + ", " + w[2] + ", 5, 1)", -1, x.which(w[0], w[1], w[2], 5, 1));
        }
    }

    private void joins() {
        e.of(20, "JOINS of a PIECE by a bound 0 .. 63: what 0 how many, 1 + i the i-th (from 0).");
        HumTape x = plain(300);
        for (int place = 0; place < 300; place++) {
            x.heard(0, place, 2, place % 2 * 63);
        }
        e.due("by 0", 299, x.joins(0, 0, 299, 0, 0));
        e.due("by 62", 299, x.joins(0, 0, 299, 62, 0));
        e.due("by 63", 0, x.joins(0, 0, 299, 63, 0));
        e.due("the 0-th", 1, x.joins(0, 0, 299, 62, 1));
        e.due("the 298-th", 299, x.joins(0, 0, 299, 62, 299));
        e.due("of one place", 0, x.joins(0, 9, 9, 0, 0));
        e.due("of two places", 10, x.joins(0, 9, 10, 0, 1));
    }

    private void joinsNone() {
        e.of(20, "NONE if one can't be, there is none such, or another what.");
        HumTape x = hear(plain(3), 1, 0, 1, 2);
        int[] wrongBounds = {-1, 64, MIN, MAX};
        for (int bound : wrongBounds) {
            e.due("bound " + bound + ", how many", -1, x.joins(0, 0, 2, bound, 0));
            e.due("bound " + bound + ", the first", -1, x.joins(0, 0, 2, bound, 1));
        }
        for (int[] w : WRONG) {
            for (int what = 0; what < 2; what++) {
                e.due("joins(" + w[0] + ", " + w[1] + ", " + w[2] + ", 5, " + what + ")", -1,
                        x.joins(w[0], w[1], w[2], 5, what));
            }
        }
        e.due("the second of two", 2, x.joins(0, 0, 2, 5, 2));
        e.due("the third of two", -1, x.joins(0, 0, 2, 5, 3));
        e.due("the first of none", -1, x.joins(0, 0, 0, 5, 1));
        e.due("what -1", -1, x.joins(0, 0, 2, 5, -1));
        e.due("what MIN", -1, x.joins(0, 0, 2, 5, MIN));
        e.due("what MAX", -1, x.joins(0, 0, 2, 5, MAX));
    }

    private void through() {
        e.of(21, "THROUGH a PIECE; NONE if one can't be.");
        HumTape x = hear(plain(300), 2, 5);
        e.due("all of it", 1, x.through(0, 0, 299));
        e.due("the first place", 2, x.through(0, 0, 0));
        e.due("the last place", 1, x.through(0, 299, 299));
        e.due("a blank one", 0, x.through(1, 299, 299));
        for (int[] w : WRONG) {
            e.due("through(" + w[0] + ", " + w[1] + ", " + w[2] + ")", -1, x.through(w[0], w[1], w[2]));
        }
    }

    private void pedal() {
        e.of(22, "A MARK that a pedal leaves (0: none are told, and v for how long a foot can hold it is 300), or (mark NONE) "
                + "how long a foot can hold it: true;");
        HumTape x = Check.ran(new int[] {}, "wipe 1;lift 99;", "erase 300;");
        e.due("lacks at first", 2, x.could(0, 0, 299, 1));
        e.due("mark 1", true, x.pedal(1, 0));
        e.due("mark 99", true, x.pedal(99, 0));
        e.due("hold 300 at first", 1, x.could(0, 0, 299, 0));
        e.due("hold 299", true, x.pedal(-1, 299));
        e.due("hold 299 then", 0, x.could(0, 0, 299, 0));
        e.due("hold 300", true, x.pedal(-1, 300));
        e.due("hold 300 then", 1, x.could(0, 0, 299, 0));
        e.due("hold 1", true, x.pedal(-1, 1));
        e.due("hold 1 of one", 1, x.could(0, 5, 5, 0));
        e.due("hold 1 of two", 0, x.could(0, 5, 6, 0));
        e.due("marks stay with a hold", 0, x.could(0, 0, 299, 1));
        e.due("mark 0", true, x.pedal(0, 5));
        e.due("none are told", 2, x.could(0, 0, 299, 1));
        x.pedal(1, 0);
        x.pedal(99, 0);
        e.due("the hold is 300", 1, x.could(0, 0, 299, 0));
        e.due("mark 0 of a new object", true, new HumTape().pedal(0, 0));
    }

    private void pedalRefused() {
        e.of(22, "false if one can't be, it is there, or there are eight.");
        HumTape x = Check.ran(new int[] {}, "", "erase 300;");
        int[] wrongMarks = {-2, 100, MIN, MAX};
        for (int mark : wrongMarks) {
            e.due("mark " + mark, false, x.pedal(mark, 1));
        }
        x.pedal(-1, 7);
        int[] wrongHolds = {0, -1, 301, MIN, MAX};
        for (int hold : wrongHolds) {
            e.due("hold " + hold, false, x.pedal(-1, hold));
        }
        e.due("the hold stays: 7", 1, x.could(0, 0, 6, 0));
        e.due("the hold stays: 8", 0, x.could(0, 0, 7, 0));
        for (int mark = 1; mark <= 8; mark++) {
            e.due("mark " + mark, true, x.pedal(mark, 0));
            e.due("mark " + mark + " is there", false, x.pedal(mark, 0));
            e.due("mark 1 is there", false, x.pedal(1, 0));
        }
        e.due("a ninth", false, x.pedal(9, 0));
        e.due("one of the eight", false, x.pedal(8, 0));
        e.due("a hold with eight", true, x.pedal(-1, 9));
        e.due("none are told", true, x.pedal(0, 0));
        e.due("the ninth now", true, x.pedal(9, 0));
        e.due("the eighth now", true, x.pedal(8, 0));
    }

    private void could() {
        e.of(23, "Of a PIECE what 0 COULD, 1 LACKS.");
        HumTape x = hear(plain(3), 5, 1, 99, 1);
        e.due("could", 0, x.could(0, 0, 2, 0));
        e.due("lacks", 2, x.could(0, 0, 2, 1));
        x.pedal(1, 0);
        e.due("lacks", 1, x.could(0, 0, 2, 1));
        e.due("could of a part", 1, x.could(0, 0, 0, 0));
        x.pedal(99, 0);
        e.due("could", 1, x.could(0, 0, 2, 0));
        e.due("lacks", 0, x.could(0, 0, 2, 1));
        e.due("could of a whole tape", 1, x.could(0, 0, 299, 0));
    }

    private void couldNone() {
        e.of(23, "NONE if one can't be, or another what.");
        HumTape x = plain(3);
        for (int[] w : WRONG) {
            for (int what = 0; what < 2; what++) {
                e.due("could(" + w[0] + ", " + w[1] + ", " + w[2] + ", " + what + ")", -1,
                        x.could(w[0], w[1], w[2], what));
            }
        }
        int[] wrongWhats = {-1, 2, MIN, MAX};
        for (int what : wrongWhats) {
            e.due("what " + what, -1, x.could(0, 0, 2, what));
        }
    }
}
