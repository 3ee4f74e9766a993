/** Promises 11 to 13: run, at, heard. */
public final class RunTest {
    private static final Check CHECK = new Check("RunTest");
    private static final int[] HUM = {10, 11, 12, 13, 14, 15, 16, 17, 18, 19};
    private static final String FULL = "start 10;stop 20;wipe 30;lift 40;width 5;hiss 2;hum 1;";

    public static void main(String[] args) {
        rec();
        recAtTheEdge();
        recOverWiderOnes();
        nothingOldStays();
        recBySpeed();
        recWithoutHum();
        secondsThatEnd();
        settingsStay();
        erase();
        copy();
        copyAtTheEdges();
        hissAddsUp();
        copyWithoutFirst();
        cut();
        cutMovesWhatHappened();
        cutAtTheEdges();
        runAnew();
        runNone();
        at();
        heard();
        heardWrong();
        CHECK.finish();
    }

    /** All ten things of a place, in at()'s order. */
    private static void duePlace(HumTape x, int tape, int place, int... due) {
        for (int what = 0; what < 10; what++) {
            CHECK.due("at(" + tape + ", " + place + ", " + what + ")", due[what], x.at(tape, place, what));
        }
    }

    private static void dueBlank(HumTape x, int tape, int place) {
        duePlace(x, tape, place, 0, -1, -1, -1, 0, 0, 0, 0, 0, 0);
    }

    private static void rec() {
        HumTape x = Check.ran(HUM, FULL, "at 3;rec 3;rec 1;talk 9;room 4;rec 2;");
        dueBlank(x, 0, 2);
        duePlace(x, 0, 3, 1, 0, 10, -1, 2, 10, 0, 5, 0, 0);
        duePlace(x, 0, 4, 1, 0, 11, -1, 2, 0, 0, 5, 0, 0);
        duePlace(x, 0, 5, 1, 0, 12, -1, 2, 20, 0, 5, 0, 0);
        duePlace(x, 0, 6, 1, 0, 13, -1, 2, 20, 0, 5, 0, 0);
        duePlace(x, 0, 7, 9, 4, 14, -1, 2, 10, 0, 5, 0, 0);
        duePlace(x, 0, 8, 9, 4, 15, -1, 2, 20, 0, 5, 0, 0);
        dueBlank(x, 0, 9);
        dueBlank(x, 1, 3);
    }

    private static void recAtTheEdge() {
        HumTape x = Check.ran(HUM, FULL, "at 298;rec 300;talk 7;rec 5;erase 4;copy 0 3;cut 2;second 6;at 0;rec 1;");
        CHECK.due("look(1)", 3, x.look(1));
        duePlace(x, 0, 298, 1, 0, 10, -1, 2, 10, 0, 5, 0, 0);
        duePlace(x, 0, 299, 1, 0, 11, -1, 2, 20, 0, 5, 0, 0);
        duePlace(x, 0, 0, 7, 0, 16, -1, 2, 20, 0, 5, 0, 0);
        HumTape y = Check.ran(HUM, FULL, "rec 300;rec 300;");
        CHECK.due("look(1)", 300, y.look(1));
        CHECK.due("the last one's mark", 20, y.at(0, 299, 5));
        CHECK.due("gone over once", 0, y.at(0, 0, 8));
        HumTape z = Check.ran(HUM, FULL, "at 299;rec 2;rec 1;at 4;rec 1;");
        CHECK.due("seconds only by places that there are", 11, z.at(0, 4, 2));
    }

    private static void recOverWiderOnes() {
        HumTape x = new HumTape();
        Check.machine(x, 0, "width 5;start 1;stop 2;");
        Check.machine(x, 1, "width 4;start 3;stop 4;");
        Check.machine(x, 2, "width 6;");
        Check.story(x, 0, "talk 8;rec 6;machine 1;at 1;talk 9;rec 2;machine 0;talk 7;at 2;rec 2;"
                + "machine 2;at 4;rec 1;machine 0;talk 6;at 4;rec 1;");
        CHECK.due("run", 6, x.run(0));
        duePlace(x, 0, 0, 8, 0, -1, -1, 0, 1, 0, 5, 0, 0);
        duePlace(x, 0, 1, 9, 0, -1, -1, 0, 3, 8, 4, 2, 0);
        duePlace(x, 0, 2, 7, 0, -1, -1, 0, 1, 0, 5, 2, 0);
        duePlace(x, 0, 3, 7, 0, -1, -1, 0, 2, 0, 5, 2, 0);
        duePlace(x, 0, 4, 6, 0, -1, -1, 0, 2, 7, 5, 2, 0);
        duePlace(x, 0, 5, 8, 0, -1, -1, 0, 2, 0, 5, 0, 0);
        CHECK.due("look(4)", 2, x.look(4));
    }

    private static void nothingOldStays() {
        HumTape x = Check.ran(HUM, FULL, "rec 3;tape 1;at 0;copy 0 3;at 0;second 7;rec 1;erase 1;at 2;copy 9 1;");
        duePlace(x, 1, 0, 1, 0, 17, -1, 2, 20, 0, 5, 2, 0);
        duePlace(x, 1, 1, 0, -1, 18, -1, 2, 40, 0, 5, 1, 0);
        duePlace(x, 1, 2, 0, -1, 19, -1, 2, 20, 0, 5, 3, 0);
        HumTape y = Check.ran(HUM, FULL, "rec 1;rec 1;at 0;rec 3;");
        CHECK.due("marks that were there are gone", 1, y.marks(0, 1, 2, 0));
        CHECK.due("marks that were there are gone", 0, y.at(0, 1, 5));
    }

    private static void recBySpeed() {
        HumTape x = Check.ran(new int[] {10, 31, 32, 63, 0}, "hum 1;speed 50;", "rec 5;");
        CHECK.due("10 by 50", 20, x.at(0, 0, 2));
        CHECK.due("31 by 50", 62, x.at(0, 1, 2));
        CHECK.due("32 by 50, 63 at most", 63, x.at(0, 2, 2));
        CHECK.due("63 by 50, 63 at most", 63, x.at(0, 3, 2));
        CHECK.due("0 by 50", 0, x.at(0, 4, 2));
        HumTape y = Check.ran(new int[] {10, 63}, "hum 1;speed 150;", "rec 2;");
        CHECK.due("10 by 150", 6, y.at(0, 0, 2));
        CHECK.due("63 by 150", 42, y.at(0, 1, 2));
        HumTape w = Check.ran(new int[] {37}, "hum 1;speed 59;", "rec 1;");
        CHECK.due("37 by 59", 62, w.at(0, 0, 2));
        HumTape z = Check.ran(new int[] {10, 63}, "hum 1;speed 97;", "rec 2;");
        CHECK.due("10 by 97", 10, z.at(0, 0, 2));
        CHECK.due("63 by 97", 63, z.at(0, 1, 2));
    }

    private static void recWithoutHum() {
        HumTape x = Check.ran(HUM, "hiss 3;", "rec 2;machine 1;rec 1;");
        duePlace(x, 0, 0, 1, 0, -1, -1, 3, 0, 0, 5, 0, 0);
        duePlace(x, 0, 2, 1, 0, -1, -1, 0, 0, 0, 5, 0, 0);
    }

    private static void secondsThatEnd() {
        HumTape x = Check.ran(HUM, FULL, "second 8;rec 3;second 1999;rec 2;second 9;rec 1;");
        CHECK.due("second 8", 18, x.at(0, 0, 2));
        CHECK.due("second 9", 19, x.at(0, 1, 2));
        CHECK.due("second 10", -1, x.at(0, 2, 2));
        CHECK.due("second 1999", -1, x.at(0, 3, 2));
        CHECK.due("second 2000", -1, x.at(0, 4, 2));
        CHECK.due("second 9 again", 19, x.at(0, 5, 2));
    }

    private static void settingsStay() {
        HumTape x = new HumTape();
        x.beats(0x0A0B0C0D, 4);
        Check.machine(x, 3, "hum 1;width 3;");
        Check.story(x, 1, "tape 1;machine 3;at 5;room 9;second 2;talk 99;rec 1;tape 0;rec 1;");
        CHECK.due("run", 2, x.run(1));
        duePlace(x, 1, 5, 99, 9, 12, -1, 0, 0, 0, 3, 0, 0);
        duePlace(x, 0, 6, 99, 9, 13, -1, 0, 0, 0, 3, 0, 0);
        Check.story(x, 2, "rec 1;");
        CHECK.due("a run begins anew", 1, x.run(2));
        duePlace(x, 0, 0, 1, 0, -1, -1, 0, 0, 0, 5, 0, 0);
    }

    private static void erase() {
        HumTape x = new HumTape();
        for (int beat : HUM) {
            x.beats(beat << 24, 1);
        }
        Check.machine(x, 0, FULL);
        Check.machine(x, 1, "wipe 31;lift 41;width 3;hiss 1;");
        Check.story(x, 0, "talk 7;room 2;rec 4;at 1;machine 1;erase 2;erase 3;at 9;erase 1;machine 0;rec 1;");
        CHECK.due("run", 8, x.run(0));
        duePlace(x, 0, 0, 7, 2, 10, -1, 2, 10, 0, 5, 0, 0);
        duePlace(x, 0, 1, 0, -1, -1, -1, 1, 31, 7, 3, 1, 0);
        duePlace(x, 0, 2, 0, -1, -1, -1, 1, 41, 7, 3, 1, 0);
        duePlace(x, 0, 3, 0, -1, -1, -1, 1, 31, 7, 3, 1, 0);
        duePlace(x, 0, 4, 0, -1, -1, -1, 1, 0, 0, 3, 1, 0);
        duePlace(x, 0, 5, 0, -1, -1, -1, 1, 41, 0, 3, 1, 0);
        duePlace(x, 0, 9, 0, -1, -1, -1, 1, 41, 0, 3, 1, 0);
        CHECK.due("the eleventh second is none", -1, x.at(0, 10, 2));
        HumTape y = Check.ran(HUM, FULL, "erase 2;at 0;rec 1;");
        duePlace(y, 0, 1, 0, -1, 11, -1, 2, 40, 0, 5, 1, 0);
        duePlace(y, 0, 0, 1, 0, 12, -1, 2, 20, 0, 5, 2, 0);
    }

    private static void copy() {
        HumTape x = new HumTape();
        for (int beat : HUM) {
            x.beats(beat << 24, 1);
        }
        Check.machine(x, 0, FULL);
        Check.machine(x, 1, "start 11;stop 21;width 3;hiss 9;hum 1;speed 50;");
        Check.story(x, 0, "talk 7;room 2;rec 3;tape 1;at 1;talk 5;rec 4;at 2;machine 1;copy 1 3;rec 1;");
        CHECK.due("run", 8, x.run(0));
        duePlace(x, 1, 1, 5, 2, 13, -1, 2, 10, 0, 5, 0, 0);
        duePlace(x, 1, 2, 7, 2, 11, 34, 11, 11, 5, 3, 3, 0);
        duePlace(x, 1, 3, 7, 2, 12, 36, 11, 0, 5, 3, 3, 0);
        duePlace(x, 1, 4, 0, -1, 38, -1, 9, 21, 5, 3, 3, 0);
        duePlace(x, 1, 5, 5, 2, -1, -1, 9, 21, 0, 3, 0, 0);
        duePlace(x, 0, 1, 7, 2, 11, -1, 2, 0, 0, 5, 0, 0);
        CHECK.due("look(5)", 3, x.look(5));
    }

    private static void copyAtTheEdges() {
        HumTape x = Check.ran(HUM, FULL, "at 298;rec 2;tape 1;at 0;copy 298 300;rec 1;at 299;copy 0 2;copy 0 1;");
        CHECK.due("as many as there are on the other", 20, x.at(1, 1, 5));
        CHECK.due("copied", 3, x.at(1, 1, 8));
        CHECK.due("at is behind the last one", 0, x.at(1, 2, 8));
        CHECK.due("as many as there are on this", 20, x.at(1, 299, 5));
        CHECK.due("copied", 3, x.at(1, 299, 8));
        CHECK.due("a blank one is copied too", 5, x.at(1, 299, 7));
        CHECK.due("look(2)", 4, x.look(2));
    }

    /** One second recorded, then copied to and fro. */
    private static HumTape copied(int times) {
        StringBuilder story = new StringBuilder("rec 1;");
        for (int i = 0; i < times; i++) {
            story.append("tape ").append(1 - i % 2).append(";at 0;copy 0 1;");
        }
        return Check.ran(HUM, "hiss 9;", story.toString());
    }

    private static void hissAddsUp() {
        CHECK.due("copied once", 18, copied(1).at(1, 0, 4));
        CHECK.due("copied nine times", 90, copied(9).at(1, 0, 4));
        CHECK.due("copied ten times", 99, copied(10).at(0, 0, 4));
        CHECK.due("copied eleven times", 99, copied(11).at(1, 0, 4));
    }

    private static void copyWithoutFirst() {
        HumTape x = new HumTape();
        x.beats(0x0A0B0C0D, 4);
        Check.machine(x, 1, "hum 1;");
        Check.story(x, 0, "rec 1;tape 1;machine 1;at 0;copy 0 2;tape 0;machine 0;at 0;copy 0 2;");
        x.run(0);
        duePlace(x, 1, 0, 1, 0, 11, -1, 0, 0, 0, 5, 3, 0);
        duePlace(x, 1, 1, 0, -1, 12, -1, 0, 0, 0, 5, 3, 0);
        duePlace(x, 0, 0, 1, 0, 11, -1, 0, 0, 0, 5, 3, 0);
        duePlace(x, 0, 1, 0, -1, 12, -1, 0, 0, 0, 5, 3, 0);
    }

    private static void cut() {
        HumTape x = Check.ran(HUM, FULL, "rec 6;at 2;cut 2;rec 1;");
        CHECK.due("look(1)", 4, x.look(1));
        duePlace(x, 0, 1, 1, 0, 11, -1, 2, 0, 0, 5, 0, 0);
        duePlace(x, 0, 2, 1, 0, 16, -1, 2, 20, 0, 5, 2, 0);
        duePlace(x, 0, 3, 1, 0, 15, -1, 2, 20, 0, 5, 0, 0);
        dueBlank(x, 0, 4);
        HumTape y = Check.ran(HUM, FULL, "rec 6;at 2;cut 2;");
        duePlace(y, 0, 2, 1, 0, 14, -1, 2, 0, 0, 5, 0, 1);
        duePlace(y, 0, 3, 1, 0, 15, -1, 2, 20, 0, 5, 0, 0);
    }

    private static void cutMovesWhatHappened() {
        HumTape x = Check.ran(HUM, FULL, "rec 9;at 5;cut 1;at 6;erase 1;at 2;cut 2;tape 1;at 0;copy 0 4;");
        CHECK.due("joined by the second cut", 1, x.at(0, 2, 9));
        CHECK.due("joined by the first cut", 1, x.at(0, 3, 9));
        CHECK.due("its beat", 16, x.at(0, 3, 2));
        CHECK.due("wiped moves", 1, x.at(0, 4, 8));
        CHECK.due("not joined", 0, x.at(0, 4, 9));
        CHECK.due("its mark", 40, x.at(0, 4, 5));
        CHECK.due("a copy is not joined", 0, x.at(1, 3, 9));
        HumTape y = Check.ran(HUM, FULL, "rec 9;at 3;cut 1;rec 1;");
        CHECK.due("till it is gone over by rec", 0, y.at(0, 3, 9));
        HumTape z = Check.ran(HUM, FULL, "rec 9;at 3;cut 1;erase 1;");
        CHECK.due("till it is gone over by erase", 0, z.at(0, 3, 9));
        HumTape w = Check.ran(HUM, FULL, "rec 9;at 3;cut 1;copy 0 1;");
        CHECK.due("till it is gone over by copy", 0, w.at(0, 3, 9));
        HumTape v = Check.ran(HUM, FULL, "rec 9;at 3;cut 1;cut 1;");
        CHECK.due("a joined one may be cut", 1, v.at(0, 3, 9));
        CHECK.due("its beat", 15, v.at(0, 3, 2));
        CHECK.due("the next one", 0, v.at(0, 4, 9));
    }

    private static void cutAtTheEdges() {
        HumTape x = Check.ran(HUM, FULL, "rec 6;at 4;cut 300;");
        CHECK.due("look(1)", 4, x.look(1));
        dueBlank(x, 0, 4);
        dueBlank(x, 0, 299);
        HumTape y = Check.ran(HUM, FULL, "rec 6;at 0;cut 2;");
        CHECK.due("place 0 may be joined", 1, y.at(0, 0, 9));
        HumTape z = Check.ran(HUM, FULL, "rec 300;cut 5;");
        CHECK.due("none behind the tape", 300, z.look(1));
        HumTape w = Check.ran(HUM, FULL, "rec 300;at 299;cut 5;");
        CHECK.due("the last one is gone", 299, w.look(1));
        dueBlank(w, 0, 299);
        HumTape v = Check.ran(HUM, FULL, "rec 300;at 0;cut 300;");
        CHECK.due("all are gone", 0, v.look(1));
    }

    private static void runAnew() {
        HumTape x = Check.ran(HUM, FULL, "rec 6;tape 1;rec 3;");
        CHECK.due("run again", 9, x.run(0));
        CHECK.due("gone over once", 0, x.at(0, 0, 8));
        CHECK.due("another text", 0, Check.story(x, 0, ""));
        CHECK.due("the tapes stay till a run", 6, x.look(1));
        CHECK.due("an empty one", 0, x.run(0));
        dueBlank(x, 0, 0);
        dueBlank(x, 1, 0);
    }

    private static void runNone() {
        HumTape x = Check.ran(HUM, FULL, "rec 6;");
        int[] wrong = {-1, 6, Integer.MIN_VALUE, Integer.MAX_VALUE};
        for (int k : wrong) {
            CHECK.due("run of none", -1, x.run(k));
        }
        CHECK.due("nothing was run", 6, x.look(1));
        CHECK.due("look(3)", 0, x.look(3));
    }

    private static void at() {
        HumTape x = Check.ran(HUM, FULL, "rec 6;");
        CHECK.due("at(-1, 0, 0)", -2, x.at(-1, 0, 0));
        CHECK.due("at(2, 0, 0)", -2, x.at(2, 0, 0));
        CHECK.due("at(0, -1, 0)", -2, x.at(0, -1, 0));
        CHECK.due("at(0, 300, 0)", -2, x.at(0, 300, 0));
        CHECK.due("at(0, 0, -1)", -2, x.at(0, 0, -1));
        CHECK.due("at(0, 0, 10)", -2, x.at(0, 0, 10));
        CHECK.due("at(MIN, MAX, MIN)", -2, x.at(Integer.MIN_VALUE, Integer.MAX_VALUE, Integer.MIN_VALUE));
        CHECK.due("at(1, 299, 7)", 0, x.at(1, 299, 7));
    }

    private static void heard() {
        HumTape x = Check.ran(HUM, FULL, "rec 2;");
        int[] most = {99, 9, 63, 63, 99, 99, 99};
        int[] least = {0, -1, 0, -1, 0, 0, 0};
        for (int what = 0; what < 7; what++) {
            CHECK.due("heard the most", true, x.heard(0, 1, what, most[what]));
            CHECK.due("at then", most[what], x.at(0, 1, what));
            CHECK.due("heard one more", false, x.heard(0, 1, what, most[what] + 1));
            CHECK.due("heard MAX", false, x.heard(0, 1, what, Integer.MAX_VALUE));
            CHECK.due("at then", most[what], x.at(0, 1, what));
        }
        duePlace(x, 0, 1, 99, 9, 63, 63, 99, 99, 99, 5, 0, 0);
        CHECK.due("no first while there is a second", false, x.heard(0, 1, 2, -1));
        CHECK.due("at then", 63, x.at(0, 1, 2));
        for (int what = 6; what >= 0; what--) {
            CHECK.due("heard the least", true, x.heard(0, 1, what, least[what]));
            CHECK.due("at then", least[what], x.at(0, 1, what));
            CHECK.due("heard -2", false, x.heard(0, 1, what, -2));
            CHECK.due("heard MIN", false, x.heard(0, 1, what, Integer.MIN_VALUE));
            CHECK.due("at then", least[what], x.at(0, 1, what));
        }
        CHECK.due("heard no first", true, x.heard(0, 1, 2, -1));
        CHECK.due("no second without a first", false, x.heard(0, 1, 3, 0));
        CHECK.due("none without one", true, x.heard(0, 1, 3, -1));
        CHECK.due("heard no first again", true, x.heard(0, 1, 2, -1));
        duePlace(x, 0, 1, 0, -1, -1, -1, 0, 0, 0, 5, 0, 0);
        for (int what = 0; what < 7; what++) {
            boolean may = what >= 1 && what <= 3;
            CHECK.due("heard NONE", may, x.heard(0, 1, what, -1));
        }
        duePlace(x, 0, 0, 1, 0, 10, -1, 2, 10, 0, 5, 0, 0);
    }

    private static void heardWrong() {
        HumTape x = Check.ran(HUM, FULL, "rec 2;");
        for (int what = 0; what < 7; what++) {
            CHECK.due("a blank place", false, x.heard(0, 2, what, BLANK[what]));
            CHECK.due("a blank place of tape 1", false, x.heard(1, 0, what, BLANK[what]));
        }
        CHECK.due("heard(.., 7, ..)", false, x.heard(0, 0, 7, 1));
        CHECK.due("heard(.., 8, ..)", false, x.heard(0, 0, 8, 1));
        CHECK.due("heard(.., 9, ..)", false, x.heard(0, 0, 9, 1));
        CHECK.due("heard(.., -1, ..)", false, x.heard(0, 0, -1, 1));
        CHECK.due("heard(2, ..)", false, x.heard(2, 0, 0, 1));
        CHECK.due("heard(-1, ..)", false, x.heard(-1, 0, 0, 1));
        CHECK.due("heard(0, 300, ..)", false, x.heard(0, 300, 0, 1));
        CHECK.due("heard(0, -1, ..)", false, x.heard(0, -1, 0, 1));
        duePlace(x, 0, 0, 1, 0, 10, -1, 2, 10, 0, 5, 0, 0);
    }

    private static final int[] BLANK = {0, -1, -1, -1, 0, 0, 0};
}
