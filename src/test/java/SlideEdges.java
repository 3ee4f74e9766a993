/** Boundary cases of the Terms' sliding, and of promises 17 to 19: slide, need, speeds. */
final class SlideEdges {
    private static final int MAX = Edge.MAX;
    private static final int MIN = Edge.MIN;
    private static final int[][] WRONG = {{-1, 0, 0}, {2, 0, 0}, {0, -1, 0}, {0, 1, 0}, {0, 299, 298}, {0, 299, 300},
        {0, 300, 300}, {MIN, 0, 0}, {MAX, 0, 0}, {0, MIN, 0}, {0, 0, MAX}, {0, MIN, MAX}, {0, MAX, MIN}};
    private static final int[] HUM = {10, 12, 10, 14, 10, 12, 20};
    private final Edge e;

    private SlideEdges(Edge e) {
        this.e = e;
    }

    static void all(Edge e) {
        SlideEdges edges = new SlideEdges(e);
        edges.off();
        edges.best();
        edges.needed();
        edges.allSpeeds();
        edges.slide();
        edges.slideNone();
        edges.need();
        edges.speeds();
        edges.speedsNone();
    }

    /** A tape 0 whose places have these first beats, under that hum. */
    private static HumTape withFirst(int[] hum, int... beats) {
        HumTape x = Check.ran(hum, "", "rec " + beats.length + ";");
        for (int place = 0; place < beats.length; place++) {
            x.heard(0, place, 2, beats[place]);
        }
        return x;
    }

    private void slides(HumTape x, int b, int doubt, int... due) {
        for (int what = 0; what < 4; what++) {
            e.due("slide(0, 0, " + b + ", 0, 100, " + doubt + ", " + what + ")", due[what],
                    x.slide(0, 0, b, 0, 100, doubt, what));
        }
    }

    private void off() {
        e.ofTerms("SLIDE: first (or second) BEATS of a PIECE, as heard by a speed, against THE HUM from a second t on: OFF is "
                + "the sum of how far they are apart (PLACES without a BEAT tell nothing); t FITS, if OFF is not above a "
                + "doubt (all seconds of the PIECE being there).");
        HumTape x = withFirst(HUM, 12, 11, -1);
        slides(x, 1, 1, 1, 1, 1, 1);
        slides(x, 1, 0, 0, -1, 1, 1);
        slides(x, 1, 2, 1, 1, 1, 1);
        slides(x, 1, 3, 4, 0, 1, 1);
        slides(x, 2, 1, 1, 1, 1, 1);
        e.due("a beat less: six t", 6, x.slide(0, 0, 1, 0, 100, 9999, 0));
        e.due("places without a beat want seconds", 5, x.slide(0, 0, 2, 0, 100, 9999, 0));
        e.due("no beats at all", 7, x.slide(0, 2, 2, 0, 100, 0, 0));
        e.due("as long as the hum", 1, x.slide(0, 0, 6, 0, 100, 9999, 0));
        e.due("no second beats", 7, x.slide(0, 0, 0, 1, 100, 0, 0));
        x.heard(0, 0, 3, 40);
        e.due("second beats by 50", 6, x.slide(0, 0, 0, 1, 50, 0, 1));
        HumTape y = new HumTape();
        y.drawn(300);
        Check.story(y, 0, "rec 300;");
        y.run(0);
        HumTape z = withFirst(new int[] {0, 0}, 63, 63);
        e.due("the sum of both", 188, z.slide(0, 0, 1, 0, 150, 188, 3));
        e.due("188 is not above 188", 1, z.slide(0, 0, 1, 0, 150, 188, 0));
        e.due("188 is above 187", 0, z.slide(0, 0, 1, 0, 150, 187, 0));
        e.due("300 places without a beat", 0, y.slide(0, 0, 299, 0, 100, 0, 3));
    }

    private void best() {
        e.ofTerms("BEST: the least OFF, of several the least t.");
        slides(withFirst(HUM, 10), 0, 0, 3, 0, 0, 0);
        slides(withFirst(HUM, 12), 0, 0, 2, 1, 1, 0);
        slides(withFirst(HUM, 20), 0, 0, 1, 6, 6, 0);
        slides(withFirst(HUM, 13), 0, 0, 0, -1, 1, 1);
        slides(withFirst(HUM, 12, 20), 1, 0, 1, 5, 5, 0);
        slides(withFirst(HUM, 63), 0, 43, 1, 6, 6, 43);
        slides(withFirst(new int[] {7, 7, 7}, -1), 0, 0, 3, 0, 0, 0);
        slides(withFirst(HUM, 14, 10, 12), 2, 4, 2, 1, 3, 0);
    }

    private void needed() {
        e.ofTerms("NEED for a doubt: the fewest PLACES from a on (b at most) for which just one t FITS.");
        HumTape x = withFirst(HUM, 10, 12, 10, 14);
        e.due("10 12 10", 3, x.need(0, 0, 3, 0));
        e.due("b is the third", 3, x.need(0, 0, 2, 0));
        e.due("b is the second", -1, x.need(0, 0, 1, 0));
        e.due("one place", 1, x.need(0, 3, 3, 0));
        e.due("none fits", -1, withFirst(HUM, 63).need(0, 0, 0, 42));
        e.due("one fits by its doubt", 1, withFirst(HUM, 63).need(0, 0, 0, 43));
        e.due("two fit by their doubt", -1, withFirst(HUM, 63).need(0, 0, 0, 49));
        e.due("blank ones: as long as the hum", 7, x.need(1, 0, 299, 0));
        e.due("blank ones: not so long", -1, x.need(1, 0, 5, 0));
        e.due("one t by the end of the hum", 2, withFirst(HUM, 12, 20).need(0, 0, 1, 0));
        e.due("longer than the hum, needing less", 1, withFirst(HUM, 20, 1, 1, 1, 1, 1, 1, 1, 1).need(0, 0, 8, 0));
        e.due("two fit, then none", -1, withFirst(HUM, 12, 63).need(0, 0, 1, 0));
        int[] steady = new int[9];
        e.due("none but the length tells", 9, withFirst(steady, steady).need(0, 0, 8, 0));
    }

    private void allSpeeds() {
        e.ofTerms("SPEEDS: all speeds 50 .. 150 by which a PIECE FITS at a told t with a doubt.");
        HumTape x = withFirst(new int[] {0, 31, 63, 60}, 63, 42, 0, -1);
        // A place, t and a doubt; how many speeds, the least, the greatest.
        int[][] due = {{0, 0, 0, 0, -1, -1}, {0, 1, 0, 1, 50, 50}, {1, 2, 0, 1, 150, 150}, {2, 0, 0, 101, 50, 150},
            {3, 1, 0, 101, 50, 150}, {2, 1, 30, 0, -1, -1}, {2, 1, 31, 101, 50, 150}, {0, 0, 31, 1, 50, 50},
            {0, 0, 93, 100, 50, 149}, {0, 0, 94, 101, 50, 150}};
        for (int[] row : due) {
            for (int what = 0; what < 3; what++) {
                e.due("speeds(0, " + row[0] + ", " + row[0] + ", " + row[1] + ", " + row[2] + ", " + what + ")",
                        row[3 + what], x.speeds(0, row[0], row[0], row[1], row[2], what));
            }
        }
        e.due("63 42 at 31 63 is off by 42 at least", 0, x.speeds(0, 0, 1, 1, 41, 0));
        e.due("that is by 50 alone", 1, x.speeds(0, 0, 1, 1, 42, 0));
    }

    private void slide() {
        e.of(17, "SLIDE of a PIECE by a speed (50 .. 150), of the first (row 0) or second (1) BEATS, with a doubt 0 .. 9999: "
                + "what 0 how many t FIT, 1 the first of these, 2 BEST, 3 its OFF.");
        HumTape x = withFirst(HUM, 20, 8);
        x.heard(0, 0, 3, 14);
        e.due("first by 50", 3, x.slide(0, 0, 0, 0, 50, 0, 0));
        e.due("second by 100", 3, x.slide(0, 0, 0, 1, 100, 0, 1));
        e.due("first of 8 by 150", 1, x.slide(0, 1, 1, 0, 150, 0, 1));
        e.due("its off", 0, x.slide(0, 1, 1, 0, 150, 0, 3));
        e.due("doubt 9999", 7, x.slide(0, 0, 0, 0, 100, 9999, 0));
        e.due("doubt 0", 1, x.slide(0, 0, 0, 0, 100, 0, 0));
        e.due("the first that fits", 1, x.slide(0, 0, 0, 0, 100, 8, 1));
        e.due("best", 6, x.slide(0, 0, 0, 0, 100, 8, 2));
        HumTape y = new HumTape();
        y.state(4711);
        for (int i = 0; i < 4; i++) {
            y.drawn(500);
        }
        Check.machine(y, 0, "hum 1;");
        Check.story(y, 0, "second 1700;rec 300;");
        y.run(0);
        e.due("300 places in 2000 seconds, the last t", 1700, y.slide(0, 0, 299, 0, 100, 0, 2));
        e.due("it fits", 1700, y.slide(0, 0, 299, 0, 100, 0, 1));
        e.due("the last place in the last second", true, y.slide(0, 299, 299, 0, 100, 0, 0) > 0);
        e.due("1701 t", 1701, y.slide(1, 0, 299, 0, 100, 0, 0));
        e.due("2000 t", 2000, y.slide(1, 299, 299, 0, 100, 0, 0));
    }

    private void slideNone() {
        e.of(17, "NONE if there is none such, no t at all, one can't be, or another what.");
        HumTape x = withFirst(HUM, 13);
        e.due("none fits: how many", 0, x.slide(0, 0, 0, 0, 100, 0, 0));
        e.due("none fits: the first", -1, x.slide(0, 0, 0, 0, 100, 0, 1));
        for (int what = 0; what < 4; what++) {
            String end = ", what " + what;
            e.due("no t at all" + end, -1, x.slide(0, 0, 7, 0, 100, 9999, what));
            e.due("no hum" + end, -1, new HumTape().slide(0, 0, 0, 0, 100, 9999, what));
            int[] wrongSpeeds = {49, 151, 0, -50, MIN, MAX};
            for (int speed : wrongSpeeds) {
                e.due("speed " + speed + end, -1, x.slide(0, 0, 0, 0, speed, 9, what));
            }
            int[] wrongRows = {-1, 2, MIN, MAX};
            for (int row : wrongRows) {
                e.due("row " + row + end, -1, x.slide(0, 0, 0, row, 100, 9, what));
            }
            int[] wrongDoubts = {-1, 10000, MIN, MAX};
            for (int doubt : wrongDoubts) {
                e.due("doubt " + doubt + end, -1, x.slide(0, 0, 0, 0, 100, doubt, what));
            }
            for (int[] w : WRONG) {
                e.due("slide(" + w[0] + ", " + w[1] + ", " + w[2] + ", ..)" + end, -1,
                        x.slide(w[0], w[1], w[2], 0, 100, 9, what));
            }
        }
        int[] wrongWhats = {-1, 4, MIN, MAX};
        for (int what : wrongWhats) {
            e.due("what " + what, -1, x.slide(0, 0, 0, 0, 100, 9, what));
        }
    }

    private void need() {
        e.of(18, "NEED of a PIECE (first BEATS, speed 100) for a doubt 0 .. 9999; NONE if there is none, or one can't be.");
        HumTape x = withFirst(HUM, 14);
        x.heard(0, 0, 3, 10);
        e.due("first beats, speed 100", 1, x.need(0, 0, 0, 0));
        e.due("doubt 9999: none", -1, x.need(0, 0, 0, 9999));
        e.due("doubt 9999 of one second", 1, withFirst(new int[] {5}, 63).need(0, 0, 0, 9999));
        e.due("the last place", -1, x.need(0, 299, 299, 0));
        e.due("no hum", -1, new HumTape().need(0, 0, 299, 9));
        int[] wrongDoubts = {-1, 10000, MIN, MAX};
        for (int doubt : wrongDoubts) {
            e.due("doubt " + doubt, -1, withFirst(new int[] {5}, 5).need(0, 0, 0, doubt));
        }
        for (int[] w : WRONG) {
            e.due("need(" + w[0] + ", " + w[1] + ", " + w[2] + ", 0)", -1, x.need(w[0], w[1], w[2], 0));
        }
    }

    private void speeds() {
        e.of(19, "SPEEDS of a PIECE (first BEATS) at t with a doubt 0 .. 9999: what 0 how many, 1 the least, 2 the greatest.");
        HumTape x = withFirst(HUM, 10, 12);
        x.heard(0, 0, 3, 63);
        int[] due = {9, 100, 108};
        int[] all = {101, 50, 150};
        for (int what = 0; what < 3; what++) {
            e.due("at 4, doubt 0", due[what], x.speeds(0, 0, 1, 4, 0, what));
            e.due("at 5, the last t, doubt 9999", all[what], x.speeds(0, 0, 1, 5, 9999, what));
            e.due("at 6, a blank one", all[what], x.speeds(1, 299, 299, 6, 0, what));
        }
    }

    private void speedsNone() {
        e.of(19, "NONE if there is none (for 1, 2), one can't be (seconds that are not there), or another what.");
        HumTape x = withFirst(HUM, 0, 12);
        e.due("none: how many", 0, x.speeds(0, 0, 0, 0, 9, 0));
        e.due("none: the least", -1, x.speeds(0, 0, 0, 0, 9, 1));
        e.due("none: the greatest", -1, x.speeds(0, 0, 0, 0, 9, 2));
        for (int what = 0; what < 3; what++) {
            String end = ", what " + what;
            int[] wrongSeconds = {-1, 6, 7, 1999, 2000, MIN, MAX};
            for (int t : wrongSeconds) {
                e.due("two places at " + t + end, -1, x.speeds(0, 0, 1, t, 9999, what));
            }
            e.due("no hum" + end, -1, new HumTape().speeds(0, 0, 0, 0, 9999, what));
            e.due("longer than the hum" + end, -1, x.speeds(0, 0, 299, 0, 9999, what));
            int[] wrongDoubts = {-1, 10000, MIN, MAX};
            for (int doubt : wrongDoubts) {
                e.due("doubt " + doubt + end, -1, x.speeds(1, 0, 0, 0, doubt, what));
            }
            for (int[] w : WRONG) {
                e.due("speeds(" + w[0] + ", " + w[1] + ", " + w[2] + ", ..)" + end, -1,
                        x.speeds(w[0], w[1], w[2], 0, 9999, what));
            }
        }
        int[] wrongWhats = {-1, 3, MIN, MAX};
        for (int what : wrongWhats) {
            e.due("what " + what, -1, x.speeds(0, 0, 1, 0, 9999, what));
        }
    }
}
