/** Promises 1 to 5: a new object, state, beats, drawn, hum. */
public final class LandTest {
    private static final Check CHECK = new Check("LandTest");

    public static void main(String[] args) {
        newObject();
        state();
        beats();
        beatsToTheBrim();
        drawn();
        drawnKeptWithin();
        drawnBehindTold();
        drawnToTheBrim();
        hum();
        CHECK.finish();
    }

    private static void newObject() {
        HumTape x = new HumTape();
        CHECK.due("NONE", -1, HumTape.NONE);
        CHECK.due("look(0)", 0, x.look(0));
        CHECK.due("look(1)", 0, x.look(1));
        CHECK.due("look(2)", 0, x.look(2));
        CHECK.due("look(3)", -1, x.look(3));
        CHECK.due("look(4)", 0, x.look(4));
        CHECK.due("look(5)", 0, x.look(5));
        CHECK.due("fault(0)", 0, x.fault(0));
        CHECK.due("fault(1)", -1, x.fault(1));
        CHECK.due("state(0)", 0, x.state(0));
        int[] blank = {0, -1, -1, -1, 0, 0, 0, 0, 0, 0};
        for (int tape = 0; tape < 2; tape++) {
            for (int place = 0; place < 300; place++) {
                for (int what = 0; what < 10; what++) {
                    CHECK.due("at of a new object", blank[what], x.at(tape, place, what));
                }
            }
        }
        int[] without = {0, 0, 0, 0, 5, 0, 0, 100};
        for (int k = 0; k < 6; k++) {
            for (int what = 0; what < 8; what++) {
                CHECK.due("machine of a new object", without[what], x.machine(k, what));
            }
            CHECK.due("run of an empty story", 0, x.run(k));
            CHECK.due("look(3) then", k, x.look(3));
        }
        for (int k = 0; k < 4; k++) {
            CHECK.due("says of an empty reader", 0, x.says(k, 0, 0, true));
        }
    }

    private static void state() {
        HumTape x = new HumTape();
        CHECK.due("state(7)", 0, x.state(7));
        CHECK.due("state(MIN)", 7, x.state(Integer.MIN_VALUE));
        CHECK.due("state(-1)", Integer.MIN_VALUE, x.state(-1));
        CHECK.due("state(0)", -1, x.state(0));
        x.drawn(1);
        CHECK.due("state after one draw from 0", 1013904223, x.state(1));
        x.drawn(1);
        CHECK.due("state after one draw from 1", 1664525 + 1013904223, x.state(0));
    }

    private static void beats() {
        HumTape x = new HumTape();
        CHECK.due("beats n 0", -1, x.beats(0, 0));
        CHECK.due("beats n 5", -1, x.beats(0, 5));
        CHECK.due("beats n -1", -1, x.beats(0, -1));
        CHECK.due("beats n MIN", -1, x.beats(0, Integer.MIN_VALUE));
        CHECK.due("beats n MAX", -1, x.beats(0, Integer.MAX_VALUE));
        CHECK.due("look(0)", 0, x.look(0));
        CHECK.due("beats 1", 1, x.beats(0xFF010203, 1));
        CHECK.due("hum(0): six bits of the highest byte", 63, x.hum(0));
        CHECK.due("beats 3", 4, x.beats(0x41424344, 3));
        CHECK.due("hum(1)", 1, x.hum(1));
        CHECK.due("hum(2)", 2, x.hum(2));
        CHECK.due("hum(3)", 3, x.hum(3));
        CHECK.due("hum(4)", -1, x.hum(4));
        CHECK.due("beats 4", 8, x.beats(0x0A0B0CBF, 4));
        CHECK.due("hum(7)", 63, x.hum(7));
        CHECK.due("state is not drawn by beats", 0, x.state(0));
    }

    private static void beatsToTheBrim() {
        HumTape x = new HumTape();
        for (int i = 0; i < 3; i++) {
            x.drawn(500);
        }
        x.drawn(498);
        CHECK.due("beats over 2000", -1, x.beats(0, 3));
        CHECK.due("look(0)", 1998, x.look(0));
        CHECK.due("beats to 2000", 2000, x.beats(0x05060000, 2));
        CHECK.due("hum(1999)", 6, x.hum(1999));
        CHECK.due("beats at 2000", -1, x.beats(0, 1));
    }

    /** The draws as the document tells them. */
    private static int nextBeat(int[] state, int ahead) {
        state[0] = 1664525 * state[0] + 1013904223;
        int drawn = (int) (((state[0] & 0xFFFFFFFFL) >> 8) % 3);
        return Math.max(0, Math.min(63, ahead + drawn - 1));
    }

    private static void drawn() {
        HumTape x = new HumTape();
        x.state(65425);
        CHECK.due("drawn(0)", -1, x.drawn(0));
        CHECK.due("drawn(501)", -1, x.drawn(501));
        CHECK.due("drawn(-1)", -1, x.drawn(-1));
        CHECK.due("drawn(MIN)", -1, x.drawn(Integer.MIN_VALUE));
        CHECK.due("drawn(MAX)", -1, x.drawn(Integer.MAX_VALUE));
        CHECK.due("nothing was drawn", 65425, x.state(65425));
        CHECK.due("drawn(500)", 500, x.drawn(500));
        int[] state = {65425};
        int ahead = 32;
        for (int t = 0; t < 500; t++) {
            ahead = nextBeat(state, ahead);
            CHECK.due("a drawn beat", ahead, x.hum(t));
        }
        CHECK.due("state then", state[0], x.state(0));
    }

    private static void drawnKeptWithin() {
        for (int edge = 0; edge <= 63; edge += 63) {
            HumTape x = new HumTape();
            x.beats(edge << 24, 1);
            x.drawn(400);
            int[] state = {0};
            int ahead = edge;
            for (int t = 1; t <= 400; t++) {
                ahead = nextBeat(state, ahead);
                CHECK.due("a drawn beat near the edge", ahead, x.hum(t));
            }
        }
    }

    private static void drawnBehindTold() {
        HumTape x = new HumTape();
        x.beats(0x0A000000, 1);
        x.state(99);
        x.drawn(1);
        CHECK.due("the one ahead is the told one", nextBeat(new int[] {99}, 10), x.hum(1));
    }

    private static void drawnToTheBrim() {
        HumTape x = new HumTape();
        for (int i = 0; i < 3; i++) {
            x.drawn(500);
        }
        x.drawn(499);
        int was = x.state(5);
        x.state(was);
        CHECK.due("drawn over 2000", -1, x.drawn(2));
        CHECK.due("nothing was drawn", was, x.state(was));
        CHECK.due("drawn to 2000", 2000, x.drawn(1));
        CHECK.due("drawn at 2000", -1, x.drawn(1));
        CHECK.due("look(0)", 2000, x.look(0));
    }

    private static void hum() {
        HumTape x = new HumTape();
        CHECK.due("hum(0)", -1, x.hum(0));
        x.beats(0x07000000, 1);
        CHECK.due("hum(0)", 7, x.hum(0));
        CHECK.due("hum(1)", -1, x.hum(1));
        CHECK.due("hum(-1)", -1, x.hum(-1));
        CHECK.due("hum(MIN)", -1, x.hum(Integer.MIN_VALUE));
        CHECK.due("hum(MAX)", -1, x.hum(Integer.MAX_VALUE));
    }
}
