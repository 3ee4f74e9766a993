/** Promises 17 to 19: slide, need, speeds. */
public final class SlideTest {
    private static final Check CHECK = new Check("SlideTest");
    private static final int MAX = Integer.MAX_VALUE;
    private static final int MIN = Integer.MIN_VALUE;
    private static final int[] HUM = {10, 12, 10, 14, 10, 12, 20};

    public static void main(String[] args) {
        slide();
        slideSecond();
        slideBySpeed();
        slideWithGaps();
        slideWrong();
        slideLong();
        need();
        needAtTheEnd();
        needWrong();
        speeds();
        speedsWrong();
        CHECK.finish();
    }

    /** A tape 0 whose places have these first beats, under that hum. */
    private static HumTape withFirst(int[] hum, int... beats) {
        HumTape x = Check.ran(hum, "", "rec " + beats.length + ";");
        for (int place = 0; place < beats.length; place++) {
            x.heard(0, place, 2, beats[place]);
        }
        return x;
    }

    private static void dueSlide(HumTape x, int b, int doubt, int... due) {
        for (int what = 0; what < 4; what++) {
            CHECK.due("slide to " + b + " doubt " + doubt + " what " + what, due[what],
                    x.slide(0, 0, b, 0, 100, doubt, what));
        }
    }

    private static void slide() {
        HumTape x = withFirst(HUM, 10, 12, 11);
        dueSlide(x, 0, 0, 3, 0, 0, 0);
        dueSlide(x, 0, 1, 3, 0, 0, 0);
        dueSlide(x, 0, 2, 5, 0, 0, 0);
        dueSlide(x, 0, 9, 6, 0, 0, 0);
        dueSlide(x, 0, 10, 7, 0, 0, 0);
        dueSlide(x, 1, 0, 2, 0, 0, 0);
        dueSlide(x, 2, 0, 0, -1, 0, 1);
        dueSlide(x, 2, 1, 1, 0, 0, 1);
        dueSlide(x, 2, 3, 2, 0, 0, 1);
        CHECK.due("the least t of several", 1, x.slide(0, 1, 1, 0, 100, 0, 2));
        CHECK.due("how many", 2, x.slide(0, 1, 1, 0, 100, 0, 0));
        CHECK.due("from place 1 on", 4, x.slide(0, 1, 2, 0, 100, 4, 0));
        CHECK.due("from place 1 on, best", 1, x.slide(0, 1, 2, 0, 100, 4, 2));
        CHECK.due("from place 1 on, its off", 1, x.slide(0, 1, 2, 0, 100, 4, 3));
        HumTape y = withFirst(HUM, 14, 10, 12);
        CHECK.due("best in the middle", 3, y.slide(0, 0, 2, 0, 100, 0, 2));
        CHECK.due("the first that fits may not be best", 1, y.slide(0, 0, 2, 0, 100, 4, 1));
    }

    private static void slideSecond() {
        HumTape x = withFirst(HUM, 63, 63);
        x.heard(0, 0, 3, 14);
        x.heard(0, 1, 3, 10);
        CHECK.due("second beats", 3, x.slide(0, 0, 1, 1, 100, 0, 1));
        CHECK.due("first beats", -1, x.slide(0, 0, 1, 0, 100, 0, 1));
        for (int what = 0; what < 4; what++) {
            CHECK.due("row 2", -1, x.slide(0, 0, 1, 2, 100, 0, what));
            CHECK.due("row -1", -1, x.slide(0, 0, 1, -1, 100, 0, what));
            CHECK.due("row MAX", -1, x.slide(0, 0, 1, MAX, 100, 0, what));
        }
    }

    private static void slideBySpeed() {
        HumTape x = withFirst(new int[] {10, 9, 63, 31}, 19, 63);
        CHECK.due("19 by 50 is 9", 0, x.slide(0, 0, 0, 0, 50, 0, 3));
        CHECK.due("there", 1, x.slide(0, 0, 0, 0, 50, 0, 2));
        CHECK.due("63 by 150 is 94, not kept in 63", 31, x.slide(0, 1, 1, 0, 150, 0, 3));
        CHECK.due("31 is the nearest", 1, x.slide(0, 1, 1, 0, 50, 0, 0));
        CHECK.due("speed 49", -1, x.slide(0, 0, 0, 0, 49, 0, 0));
        CHECK.due("speed 151", -1, x.slide(0, 0, 0, 0, 151, 0, 0));
        CHECK.due("speed MIN", -1, x.slide(0, 0, 0, 0, MIN, 0, 0));
    }

    private static void slideWithGaps() {
        HumTape x = withFirst(HUM, 10, -1, 10, -1);
        CHECK.due("places without a beat tell nothing", 2, x.slide(0, 0, 2, 0, 100, 0, 0));
        CHECK.due("the first", 0, x.slide(0, 0, 2, 0, 100, 0, 1));
        CHECK.due("but their seconds must be there", 4, x.slide(0, 0, 3, 0, 100, 99, 0));
        CHECK.due("none has a beat", 7, x.slide(0, 1, 1, 0, 100, 0, 0));
        CHECK.due("none has a beat, off", 0, x.slide(0, 3, 3, 0, 100, 0, 3));
        CHECK.due("blank ones", 1, x.slide(1, 0, 6, 0, 100, 0, 0));
        CHECK.due("blank ones at the end", 1, x.slide(1, 293, 299, 0, 100, 0, 0));
        CHECK.due("no t at all", -1, x.slide(1, 0, 7, 0, 100, 0, 0));
    }

    private static void slideWrong() {
        HumTape x = withFirst(HUM, 10, 12, 11);
        for (int what = 0; what < 4; what++) {
            CHECK.due("tape 2", -1, x.slide(2, 0, 0, 0, 100, 0, what));
            CHECK.due("tape -1", -1, x.slide(-1, 0, 0, 0, 100, 0, what));
            CHECK.due("a -1", -1, x.slide(0, -1, 0, 0, 100, 0, what));
            CHECK.due("a above b", -1, x.slide(0, 1, 0, 0, 100, 0, what));
            CHECK.due("b 300", -1, x.slide(0, 299, 300, 0, 100, 0, what));
            CHECK.due("MIN to MAX", -1, x.slide(0, MIN, MAX, 0, 100, 0, what));
            CHECK.due("doubt -1", -1, x.slide(0, 0, 0, 0, 100, -1, what));
            CHECK.due("doubt 10000", -1, x.slide(0, 0, 0, 0, 100, 10000, what));
            CHECK.due("no t at all", -1, x.slide(0, 0, 7, 0, 100, 0, what));
            CHECK.due("no hum", -1, new HumTape().slide(0, 0, 0, 0, 100, 0, what));
        }
        CHECK.due("doubt 9999", 7, x.slide(0, 0, 0, 0, 100, 9999, 0));
        CHECK.due("what -1", -1, x.slide(0, 0, 0, 0, 100, 0, -1));
        CHECK.due("what 4", -1, x.slide(0, 0, 0, 0, 100, 0, 4));
        CHECK.due("what MIN", -1, x.slide(0, 0, 0, 0, 100, 0, MIN));
    }

    private static void slideLong() {
        HumTape x = new HumTape();
        x.state(4711);
        for (int i = 0; i < 4; i++) {
            x.drawn(500);
        }
        Check.machine(x, 0, "hum 1;");
        Check.story(x, 0, "second 1234;rec 300;");
        x.run(0);
        CHECK.due("found in 2000 seconds", 1234, x.slide(0, 0, 299, 0, 100, 0, 1));
        CHECK.due("there alone", 1, x.slide(0, 0, 299, 0, 100, 0, 0));
        CHECK.due("best", 1234, x.slide(0, 0, 299, 0, 100, 0, 2));
        CHECK.due("off", 0, x.slide(0, 0, 299, 0, 100, 0, 3));
    }

    private static void need() {
        HumTape x = withFirst(HUM, 10, 12, 10, 14);
        CHECK.due("10 12 10", 3, x.need(0, 0, 3, 0));
        CHECK.due("b at most", -1, x.need(0, 0, 1, 0));
        CHECK.due("just enough", 3, x.need(0, 0, 2, 0));
        CHECK.due("from 1 on", 2, x.need(0, 1, 3, 0));
        CHECK.due("from 3 on", 1, x.need(0, 3, 3, 0));
        CHECK.due("with a doubt of 1", 3, x.need(0, 0, 3, 1));
        CHECK.due("with a doubt of 3", 4, x.need(0, 0, 3, 3));
        CHECK.due("with a doubt of 4", -1, x.need(0, 0, 3, 4));
        CHECK.due("with a doubt of 8", -1, x.need(0, 0, 3, 8));
    }

    private static void needAtTheEnd() {
        HumTape x = withFirst(HUM, 63, 63, 63);
        CHECK.due("none fits", -1, x.need(0, 0, 2, 0));
        CHECK.due("the nearest fits alone", 1, x.need(0, 0, 2, 43));
        CHECK.due("as long as the hum", 7, x.need(1, 0, 299, 0));
        CHECK.due("almost as long as the hum", -1, x.need(1, 0, 5, 0));
        CHECK.due("no hum", -1, new HumTape().need(0, 0, 299, 0));
        HumTape y = withFirst(new int[] {5}, 5);
        CHECK.due("one second", 1, y.need(0, 0, 0, 0));
        CHECK.due("speed is 100", 1, withFirst(HUM, 14).need(0, 0, 0, 0));
    }

    private static void needWrong() {
        HumTape x = withFirst(HUM, 14);
        CHECK.due("tape 2", -1, x.need(2, 0, 0, 0));
        CHECK.due("tape -1", -1, x.need(-1, 0, 0, 0));
        CHECK.due("a -1", -1, x.need(0, -1, 0, 0));
        CHECK.due("a above b", -1, x.need(0, 1, 0, 0));
        CHECK.due("b 300", -1, x.need(0, 0, 300, 0));
        CHECK.due("MIN to MAX", -1, x.need(0, MIN, MAX, 0));
        CHECK.due("doubt -1", -1, x.need(0, 0, 0, -1));
        CHECK.due("doubt 10000", -1, x.need(0, 0, 0, 10000));
        CHECK.due("doubt 9999", -1, x.need(0, 0, 0, 9999));
    }

    private static void speeds() {
        HumTape x = withFirst(new int[] {10, 30, 63, 0}, 20, 60, 0);
        CHECK.due("20 to 10, 60 to 30: 50 and 51", 2, x.speeds(0, 0, 1, 0, 0, 0));
        CHECK.due("the least", 50, x.speeds(0, 0, 1, 0, 0, 1));
        CHECK.due("the greatest", 51, x.speeds(0, 0, 1, 0, 0, 2));
        CHECK.due("with a doubt of 1", 53, x.speeds(0, 0, 1, 0, 1, 2));
        CHECK.due("60 to 63", 105, x.speeds(0, 1, 1, 2, 0, 1));
        CHECK.due("60 to 63", 106, x.speeds(0, 1, 1, 2, 0, 2));
        CHECK.due("0 to 0: all", 101, x.speeds(0, 2, 2, 3, 0, 0));
        CHECK.due("0 to 0: all", 50, x.speeds(0, 2, 2, 3, 0, 1));
        CHECK.due("0 to 0: all", 150, x.speeds(0, 2, 2, 3, 0, 2));
        CHECK.due("none", 0, x.speeds(0, 0, 0, 2, 0, 0));
        CHECK.due("none, the least", -1, x.speeds(0, 0, 0, 2, 0, 1));
        CHECK.due("none, the greatest", -1, x.speeds(0, 0, 0, 2, 0, 2));
        CHECK.due("no beats", 101, x.speeds(1, 0, 3, 0, 0, 0));
    }

    private static void speedsWrong() {
        HumTape x = withFirst(HUM, 10, 12);
        for (int what = 0; what < 3; what++) {
            CHECK.due("tape 2", -1, x.speeds(2, 0, 0, 0, 0, what));
            CHECK.due("tape -1", -1, x.speeds(-1, 0, 0, 0, 0, what));
            CHECK.due("a -1", -1, x.speeds(0, -1, 0, 0, 0, what));
            CHECK.due("a above b", -1, x.speeds(0, 1, 0, 0, 0, what));
            CHECK.due("b 300", -1, x.speeds(0, 299, 300, 0, 0, what));
            CHECK.due("t -1", -1, x.speeds(0, 0, 0, -1, 99, what));
            CHECK.due("t 7 of 7", -1, x.speeds(0, 0, 0, 7, 99, what));
            CHECK.due("t 6 for two", -1, x.speeds(0, 0, 1, 6, 99, what));
            CHECK.due("t MAX", -1, x.speeds(0, 0, 1, MAX, 99, what));
            CHECK.due("t MIN", -1, x.speeds(0, 0, 1, MIN, 99, what));
            CHECK.due("doubt -1", -1, x.speeds(0, 0, 0, 0, -1, what));
            CHECK.due("doubt 10000", -1, x.speeds(0, 0, 0, 0, 10000, what));
            CHECK.due("no hum", -1, new HumTape().speeds(0, 0, 0, 0, 0, what));
        }
        CHECK.due("t 5 for two", 101, x.speeds(0, 0, 1, 5, 9999, 0));
        CHECK.due("what 3", -1, x.speeds(0, 0, 0, 0, 99, 3));
        CHECK.due("what -1", -1, x.speeds(0, 0, 0, 0, 99, -1));
    }
}
