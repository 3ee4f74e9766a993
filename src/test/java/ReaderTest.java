/** Promises 25 and 26: says, reader. */
public final class ReaderTest {
    private static final Check CHECK = new Check("ReaderTest");
    private static final int MAX = Integer.MAX_VALUE;
    private static final int MIN = Integer.MIN_VALUE;

    public static void main(String[] args) {
        answers();
        operands();
        arithmetic();
        wraps();
        logic();
        precedence();
        deepOnes();
        toldAgain();
        blankPlaces();
        saysWrong();
        right();
        lean();
        readerWrong();
        CHECK.finish();
    }

    /** Whether a condition is so of a place of a tape. */
    private static void dueSo(HumTape x, boolean due, String condition, int place, boolean knew) {
        CHECK.due("lines of " + condition, 1, Check.reader(x, 2, "whole when " + condition + ";"));
        CHECK.due(condition, due ? 4 : 0, x.says(2, 0, place, knew));
    }

    private static void dueSo(boolean due, String condition) {
        dueSo(new HumTape(), due, condition, 0, false);
    }

    private static void answers() {
        HumTape x = new HumTape();
        Check.reader(x, 0, "wiped when place=1;joined when place=2;copied when place=3;whole when place<5;"
                + "joined when place>6;wiped when place>5;");
        int[] due = {4, 1, 2, 3, 4, 0, 1, 2};
        for (int place = 0; place < due.length; place++) {
            CHECK.due("says of place " + place, due[place], x.says(0, 0, place, false));
        }
        CHECK.due("another reader", 0, x.says(1, 0, 1, false));
    }

    private static void operands() {
        HumTape x = Check.ran(new int[] {10, 20, 33}, "hum 1;hiss 6;start 5;stop 7;", "talk 9;room 3;rec 3;");
        x.heard(0, 1, 6, 44);
        x.heard(0, 2, 3, 8);
        x.heard(0, 0, 1, -1);
        x.heard(0, 0, 2, -1);
        dueSo(x, true, "mark=5", 0, false);
        dueSo(x, true, "mark=0", 1, false);
        dueSo(x, true, "mark=7", 2, false);
        dueSo(x, true, "air=0", 0, false);
        dueSo(x, true, "air=4", 1, false);
        dueSo(x, true, "jump=0", 0, false);
        dueSo(x, true, "jump=0", 1, false);
        dueSo(x, true, "jump=13", 2, false);
        dueSo(x, true, "hiss=6", 1, false);
        dueSo(x, true, "beats=0", 0, false);
        dueSo(x, true, "beats=1", 1, false);
        dueSo(x, true, "beats=2", 2, false);
        dueSo(x, true, "left=44", 1, false);
        dueSo(x, true, "left=0", 2, false);
        dueSo(x, true, "sound=9", 1, false);
        dueSo(x, true, "place=2", 2, false);
        dueSo(x, true, "knew=1", 2, true);
        dueSo(x, true, "knew=0", 2, false);
        dueSo(x, false, "knew=1", 2, false);
    }

    private static void arithmetic() {
        dueSo(true, "1+2*3=7");
        dueSo(true, "2*3+1=7");
        dueSo(true, "10-3-2=5");
        dueSo(true, "10-3+2=9");
        dueSo(true, "7*3/2=10");
        dueSo(true, "7/2*3=9");
        dueSo(true, "100/7/2=7");
        dueSo(true, "0-7/2=0-3");
        dueSo(true, "2*3-10=0-4");
        dueSo(true, "1-2*9/3<0");
        dueSo(true, "5<6");
        dueSo(false, "6<6");
        dueSo(true, "6=6");
        dueSo(false, "6>6");
        dueSo(true, "7>6");
        dueSo(true, "0-1<0");
        dueSo(true, "0012=12");
        dueSo(true, "5/1=5");
        dueSo(true, "3=1+2");
        dueSo(false, "2=1+2");
        dueSo(false, "2>1+2");
        dueSo(false, "2<1-2");
        dueSo(true, "9-4*2=1");
        dueSo(true, "9+4*2=17");
        dueSo(true, "1+2<4-0");
        dueSo(true, "9-5=2*2");
        dueSo(true, "9-4-1*2>2+0");
        dueSo(true, "2+6/2-1=4");
    }

    private static void wraps() {
        dueSo(true, "9999*9999*9999<0-1");
        dueSo(true, "8192*8192*64=0");
        dueSo(true, "8192*8192*32<0");
        dueSo(true, "8192*8192*32-1>0");
        dueSo(true, "8192*8192*32/2+8192*8192*16=0");
    }

    private static void logic() {
        dueSo(true, "1=1 and 2=2");
        dueSo(false, "1=1 and 2=3");
        dueSo(false, "1=2 and 2=2");
        dueSo(true, "1=1 or 2=3");
        dueSo(true, "1=2 or 2=2");
        dueSo(false, "1=2 or 2=3");
        dueSo(false, "not 1=1");
        dueSo(true, "not 1=2");
        dueSo(true, "not not 1=1");
        dueSo(true, "(1=1)");
        dueSo(false, "not(1=1)");
    }

    private static void precedence() {
        dueSo(true, "1=1 or 1=1 and 1=2");
        dueSo(true, "1=2 and 1=1 or 1=1");
        dueSo(false, "(1=1 or 1=1) and 1=2");
        dueSo(false, "1=2 and (1=1 or 1=1)");
        dueSo(false, "not 1=1 and 1=2");
        dueSo(true, "not (1=1 and 1=2)");
        dueSo(true, "not 1=1 or 1=1");
        dueSo(false, "not (1=1 or 1=1)");
        dueSo(true, "1=1 and not 1=2");
        dueSo(true, "1=2 or not 1=2 and 1=1");
        dueSo(true, "not 1=2 and not 1=3 or 1=4");
        dueSo(false, "1=2 or 1=1 and 1=3 or 1=4");
    }

    private static void deepOnes() {
        StringBuilder deep = new StringBuilder();
        for (int i = 0; i < 8; i++) {
            deep.append("1=2 or 1=1 and (");
        }
        dueSo(true, deep + "1+2*3<8-0*1" + ")".repeat(8));
        dueSo(false, deep + "1+2*3>8-0*1" + ")".repeat(8));
        dueSo(true, "not ".repeat(8) + "1=1");
        dueSo(false, "not ".repeat(7) + "1=1");
        dueSo(true, "not(".repeat(4) + "1=1" + ")".repeat(4));
        dueSo(true, "1=2 or ".repeat(60) + "1=1");
        dueSo(false, "1=1 and ".repeat(60) + "1=2");
    }

    private static void toldAgain() {
        HumTape x = new HumTape();
        for (int i = 0; i < 9; i++) {
            int ones = 150 + i;
            Check.reader(x, 0, "joined when 1=2;".repeat(11) + "copied when " + "1+".repeat(ones) + "0=" + ones + ";");
            CHECK.due("told again", 3, x.says(0, 0, 0, false));
            Check.reader(x, 1, "whole when (not (not (1=1 or 1=2 and 1+1*");
            Check.reader(x, 2, "wiped when not (1=2 and not 1=2);" + "joined when 1=1;".repeat(i));
            CHECK.due("told behind a fault", 1, x.says(2, 0, 0, false));
            CHECK.due("lines", 1 + i, Check.reader(x, 2, "wiped when 1=2;" + "joined when 1=1;".repeat(i)));
        }
        CHECK.due("not told", 0, x.says(1, 0, 0, false));
    }

    private static void blankPlaces() {
        HumTape x = new HumTape();
        dueSo(x, true, "mark=0 and air=0 and jump=0 and hiss=0 and beats=0 and left=0 and sound=0", 299, true);
        dueSo(x, true, "place=299 and knew=1", 299, true);
    }

    private static void saysWrong() {
        HumTape x = new HumTape();
        Check.reader(x, 0, "whole when 1=1;");
        Check.reader(x, 3, "wiped when 1=1;");
        CHECK.due("says", 4, x.says(0, 1, 299, false));
        CHECK.due("says", 1, x.says(3, 0, 0, true));
        int[][] wrong = {{-1, 0, 0}, {4, 0, 0}, {0, -1, 0}, {0, 2, 0}, {0, 0, -1}, {0, 0, 300},
            {MIN, 0, 0}, {MAX, 0, 0}, {0, MIN, 0}, {0, MAX, 0}, {0, 0, MIN}, {0, 0, MAX}};
        for (int[] w : wrong) {
            CHECK.due("says of none such", -1, x.says(w[0], w[1], w[2], false));
            CHECK.due("says of none such", -1, x.says(w[0], w[1], w[2], true));
        }
    }

    /** Tape 0: two whole, one wiped, one over, a joined one that was wiped, one wiped; tape 1: three copied. */
    private static HumTape ofAll() {
        HumTape x = new HumTape();
        Check.story(x, 0, "rec 2;erase 1;rec 1;at 3;rec 1;rec 1;erase 2;at 4;cut 1;tape 1;at 1;copy 0 3;");
        x.run(0);
        for (int k = 0; k < 4; k++) {
            String[] words = {"wiped", "joined", "copied", "whole"};
            Check.reader(x, k, words[k] + " when 1=1;");
        }
        return x;
    }

    private static void right() {
        HumTape x = ofAll();
        CHECK.due("look(1)", 6, x.look(1));
        CHECK.due("place 3 is over", 2, x.at(0, 3, 8));
        CHECK.due("place 4 is wiped", 1, x.at(0, 4, 8));
        CHECK.due("place 4 is joined", 1, x.at(0, 4, 9));
        for (int what = 0; what < 2; what++) {
            CHECK.due("wiped", 2, x.reader(0, 0, 0, 299, what));
            CHECK.due("joined", 1, x.reader(1, 0, 0, 299, what));
            CHECK.due("copied", 0, x.reader(2, 0, 0, 299, what));
            CHECK.due("whole or over", 3, x.reader(3, 0, 0, 299, what));
            CHECK.due("copied on tape 1", 3, x.reader(2, 1, 0, 299, what));
            CHECK.due("blank ones do not count", 0, x.reader(3, 1, 0, 299, what));
            CHECK.due("a part", 2, x.reader(3, 0, 1, 4, what));
            CHECK.due("one place", 1, x.reader(1, 0, 4, 4, what));
        }
        Check.reader(x, 0, "whole when knew=1 and place<2;wiped when sound=0;");
        CHECK.due("right without knowing", 2, x.reader(0, 0, 0, 299, 0) + 0);
        CHECK.due("right by knowing", 4, x.reader(0, 0, 0, 299, 1));
        CHECK.due("an empty reader is never right", 0, new HumTape().reader(0, 0, 0, 299, 0));
    }

    private static void lean() {
        HumTape x = ofAll();
        CHECK.due("not leant", 0, x.reader(0, 0, 0, 299, 2));
        Check.reader(x, 0, "wiped when knew=1;whole when 1=1;");
        CHECK.due("all that are not blank", 6, x.reader(0, 0, 0, 299, 2));
        CHECK.due("on tape 1", 3, x.reader(0, 1, 0, 299, 2));
        CHECK.due("a part", 2, x.reader(0, 0, 4, 299, 2));
        Check.reader(x, 0, "wiped when knew=1 and place>2;joined when place=4;wiped when place=5;");
        CHECK.due("places 3 and 4", 2, x.reader(0, 0, 0, 299, 2));
    }

    private static void readerWrong() {
        HumTape x = ofAll();
        int[][] wrong = {{-1, 0, 0, 1}, {4, 0, 0, 1}, {0, -1, 0, 1}, {0, 2, 0, 1}, {0, 0, -1, 1}, {0, 0, 2, 1},
            {0, 0, 0, 300}, {MIN, 0, 0, 1}, {MAX, 0, 0, 1}, {0, MIN, 0, 1}, {0, 0, MIN, MAX}, {0, 0, MAX, MIN}};
        for (int[] w : wrong) {
            for (int what = 0; what < 3; what++) {
                CHECK.due("reader of none such", -1, x.reader(w[0], w[1], w[2], w[3], what));
            }
        }
        CHECK.due("what -1", -1, x.reader(0, 0, 0, 1, -1));
        CHECK.due("what 3", -1, x.reader(0, 0, 0, 1, 3));
        CHECK.due("what MIN", -1, x.reader(0, 0, 0, 1, MIN));
        CHECK.due("what MAX", -1, x.reader(0, 0, 0, 1, MAX));
    }
}
