/** Boundary cases of the Terms' STATE and HUM, and of promises 1 to 5. */
final class LandEdges {
    private static final int MAX = Edge.MAX;
    private static final int MIN = Edge.MIN;
    private static final int[] WITHOUT = {0, 0, 0, 0, 5, 0, 0, 100};
    private final Edge e;

    private LandEdges(Edge e) {
        this.e = e;
    }

    static void all(Edge e) {
        LandEdges edges = new LandEdges(e);
        edges.quotients();
        edges.oneState();
        edges.drawOfM();
        edges.rowOfSeconds();
        edges.noSecond();
        edges.newObject();
        edges.state();
        edges.beats();
        edges.beatsRefused();
        edges.drawn();
        edges.drawnRefused();
        edges.hum();
    }

    /** The state from which the next draw makes a told one. */
    private static int stateAhead(int next) {
        int inverse = 1;
        for (int i = 0; i < 5; i++) {
            inverse *= 2 - 1664525 * inverse;
        }
        return (next - 1013904223) * inverse;
    }

    /** The beat that is drawn behind a told one (none if NONE) when the draw makes a told state. */
    private static int drawnBeat(int ahead, int next) {
        HumTape x = new HumTape();
        if (ahead != -1) {
            x.beats(ahead << 24, 1);
        }
        x.state(stateAhead(next));
        return x.hum(x.drawn(1) - 1);
    }

    private static HumTape ofSeconds(int n) {
        HumTape x = new HumTape();
        for (int left = n; left > 0; left -= 500) {
            x.drawn(Math.min(500, left));
        }
        return x;
    }

    private void quotients() {
        e.ofTerms("Quotients go towards 0.");
        e.so(true, "8192*8192*32/3+8192*8192*10+9999*4474+3716=0");
        e.so(true, "8192*8192*32/9999/9999=0-21");
        e.so(true, "9999/2=4999");
        HumTape x = Check.ran(new int[] {10}, "hum 1;speed 150;", "rec 1;");
        e.due("10 times 100 by 150", 6, x.at(0, 0, 2));
    }

    private void oneState() {
        e.ofTerms("There is one STATE (an int, 0 at first);");
        HumTape x = new HumTape();
        HumTape other = new HumTape();
        other.state(9);
        e.due("state at first", 0, x.state(MIN));
        e.due("the least int", MIN, x.state(MAX));
        e.due("the greatest int", MAX, x.state(0));
    }

    private void drawOfM() {
        e.ofTerms("a DRAW of m: STATE becomes 1664525 STATE + 1013904223 (ints, which wrap), then it is its "
                + "highest 24 bits (without sign) modulo m.");
        int[] next = {0, 0xFF, 0x100, 0x1FF, 0x200, 0x300, 0x7FFFFFFF, MIN, -1, 0xFFFFFE00};
        int[] draw = {0, 0, 1, 1, 2, 0, 1, 2, 0, 2};
        for (int i = 0; i < next.length; i++) {
            e.due("a draw that makes " + next[i], 32 + draw[i] - 1, drawnBeat(-1, next[i]));
        }
        HumTape x = new HumTape();
        x.state(MAX);
        x.drawn(1);
        e.due("the state wraps", (int) (1664525L * MAX + 1013904223L), x.state(MIN));
        x.drawn(1);
        e.due("the state wraps", (int) (1664525L * MIN + 1013904223L), x.state(0));
    }

    private void rowOfSeconds() {
        e.ofTerms("THE HUM of a land is a row of seconds 0 .. 1999, each a BEAT 0 .. 63 (told, or drawn: the one "
                + "ahead, 32 for the first, and a DRAW of 3 less 1, kept in 0 .. 63).");
        HumTape full = ofSeconds(1999);
        e.due("the last second", 2000, full.beats(0x3F000000, 1));
        e.due("hum(1999)", 63, full.hum(1999));
        e.due("a second more", -1, full.beats(0, 1));
        e.due("hum(2000)", -1, full.hum(2000));
        for (int draw = 0; draw < 3; draw++) {
            int next = draw << 8;
            e.due("the first, draw " + draw, 31 + draw, drawnBeat(-1, next));
            e.due("behind 0, draw " + draw, Math.max(0, draw - 1), drawnBeat(0, next));
            e.due("behind 1, draw " + draw, draw, drawnBeat(1, next));
            e.due("behind 62, draw " + draw, 61 + draw, drawnBeat(62, next));
            e.due("behind 63, draw " + draw, Math.min(63, 62 + draw), drawnBeat(63, next));
        }
    }

    private void noSecond() {
        e.ofTerms("BEAT of a second that there is not is NONE.");
        HumTape x = new HumTape();
        e.due("hum(0) of none", -1, x.hum(0));
        x.beats(0, 1);
        e.due("hum(0) of one", 0, x.hum(0));
        e.due("hum(1) of one", -1, x.hum(1));
        e.due("hum(-1)", -1, x.hum(-1));
    }

    private void newObject() {
        e.of(1, "No HUM, blank TAPES.");
        HumTape x = new HumTape();
        e.due("look(0)", 0, x.look(0));
        e.due("hum(0)", -1, x.hum(0));
        for (int tape = 0; tape < 2; tape++) {
            for (int place = 0; place < 300; place++) {
                e.blank(x, tape, place);
            }
            e.due("look at a tape", 0, x.look(1 + tape));
        }
        for (int k = 0; k < 6; k++) {
            for (int what = 0; what < 8; what++) {
                e.due("machine(" + k + ", " + what + ")", WITHOUT[what], x.machine(k, what));
            }
        }
    }

    private void state() {
        e.of(2, "STATE is told: what it was.");
        HumTape x = new HumTape();
        int[] told = {-1, MIN, MAX, 0, 1};
        int was = 0;
        for (int v : told) {
            e.due("state(" + v + ")", was, x.state(v));
            was = v;
        }
        x.drawn(2);
        int twice = 1664525 * (1664525 + 1013904223) + 1013904223;
        e.due("what the draws made of it", twice, x.state(0));
        x.beats(0, 4);
        e.due("beats draw nothing", 0, x.state(0));
    }

    private void beats() {
        e.of(3, "Seconds of THE HUM come behind: n (1 .. 4) BEATS, the lowest six bits of a's bytes, the highest "
                + "byte first: how many there are;");
        HumTape x = new HumTape();
        int[] bytes = {0xFF, 0x40, 0x3F, 0x80};
        int[] due = {63, 0, 63, 0};
        int a = 0xFF403F80;
        int there = 0;
        for (int n = 1; n <= 4; n++) {
            there += n;
            e.due("beats(a, " + n + ")", there, x.beats(a, n));
            for (int i = 0; i < n; i++) {
                e.due("six bits of " + bytes[i], due[i], x.hum(there - n + i));
            }
            e.due("no more than n come", -1, x.hum(there));
        }
    }

    private void beatsRefused() {
        e.of(3, "NONE if one can't be, or there would be more than 2000.");
        HumTape x = ofSeconds(1997);
        int[] wrong = {0, -1, 5, MIN, MAX, MAX - 1996};
        for (int n : wrong) {
            e.due("beats(0, " + n + ")", -1, x.beats(0, n));
        }
        e.due("2001 of them", -1, x.beats(0, 4));
        e.due("nothing came", 1997, x.look(0));
        e.due("nothing came", -1, x.hum(1997));
        e.due("2000 of them", 2000, x.beats(0, 3));
        e.due("2001 of them", -1, x.beats(0, 1));
        e.due("nothing came", 2000, x.look(0));
    }

    private void drawn() {
        e.of(4, "n (1 .. 500) seconds are drawn behind: how many there are;");
        HumTape x = new HumTape();
        e.due("drawn(1)", 1, x.drawn(1));
        e.due("drawn(500)", 501, x.drawn(500));
        e.due("look(0)", 501, x.look(0));
        e.due("the last one is there", true, x.hum(500) >= 0);
        e.due("no more are", -1, x.hum(501));
    }

    private void drawnRefused() {
        e.of(4, "NONE likewise, and nothing is drawn.");
        HumTape x = ofSeconds(1600);
        x.state(77);
        int[] wrong = {0, -1, 501, MIN, MAX, MAX - 1599, 401, 500};
        for (int n : wrong) {
            e.due("drawn(" + n + ")", -1, x.drawn(n));
            e.due("state behind drawn(" + n + ")", 77, x.state(77));
            e.due("look(0) behind drawn(" + n + ")", 1600, x.look(0));
        }
        e.due("drawn(501) with room enough", -1, new HumTape().drawn(501));
        e.due("to 2000", 2000, x.drawn(400));
        x.state(77);
        e.due("to 2001", -1, x.drawn(1));
        e.due("nothing is drawn", 77, x.state(77));
    }

    private void hum() {
        e.of(5, "BEAT of a second; NONE if there is none.");
        HumTape x = new HumTape();
        x.beats(0x3F000500, 3);
        e.due("hum(0)", 63, x.hum(0));
        e.due("a beat of 0 is one", 0, x.hum(1));
        e.due("hum(2)", 5, x.hum(2));
        int[] wrong = {3, 4, 1999, 2000, -1, MIN, MAX};
        for (int t : wrong) {
            e.due("hum(" + t + ")", -1, x.hum(t));
        }
    }
}
