/** Promises 24 and 27: alike, look. */
public final class StoryTest {
    private static final Check CHECK = new Check("StoryTest");
    private static final int MAX = Integer.MAX_VALUE;
    private static final int MIN = Integer.MIN_VALUE;

    public static void main(String[] args) {
        alike();
        alikeCountsEach();
        alikeByTheHumAsItIs();
        alikeOfEachTape();
        alikeChangesNothing();
        likeliest();
        alikeWrong();
        look();
        CHECK.finish();
    }

    private static void alike() {
        HumTape x = new HumTape();
        x.beats(0x0A0B0C0D, 4);
        Check.machine(x, 0, "start 1;stop 2;hiss 3;hum 1;");
        Check.story(x, 0, "rec 4;");
        Check.story(x, 1, "rec 2;");
        CHECK.due("both tapes blank, an empty story", 2100, x.alike(0, 2, 0));
        CHECK.due("four places of sound, air, beat, hiss, two of mark", 2100 - 18, x.alike(0, 0, 0));
        x.run(0);
        CHECK.due("as it was run", 2100, x.alike(0, 0, 0));
        CHECK.due("two places, and the stop at the second", 2100 - 10, x.alike(0, 1, 0));
        CHECK.due("an empty story", 2100 - 18, x.alike(0, 5, 0));
    }

    private static void alikeCountsEach() {
        HumTape x = new HumTape();
        x.beats(0x0A0B0C0D, 4);
        Check.machine(x, 0, "hum 1;");
        Check.story(x, 0, "rec 4;");
        x.run(0);
        int[] other = {50, 5, 50, 50, 50, 50, 50};
        for (int what = 0; what < 7; what++) {
            CHECK.due("heard", true, x.heard(0, 2, what, other[what]));
            CHECK.due("one less each", 2099 - what, x.alike(0, 0, 0));
        }
        Check.machine(x, 1, "hum 1;width 9;");
        Check.story(x, 1, "machine 1;rec 4;");
        CHECK.due("widths do not count", 2093, x.alike(0, 1, 0));
        Check.story(x, 2, "rec 4;at 0;rec 4;");
        CHECK.due("what happened does not count: four beats", 2093 - 3, x.alike(0, 2, 0));
        x.run(1);
        Check.story(x, 3, "machine 1;rec 1;erase 1;at 1;second 1;rec 3;");
        CHECK.due("over, not whole", 2100, x.alike(0, 3, 0));
        Check.story(x, 4, "machine 1;rec 5;at 0;cut 1;second 0;rec 4;");
        CHECK.due("whether it is joined does not count", 2100, x.alike(0, 4, 0));
    }

    private static void alikeByTheHumAsItIs() {
        HumTape x = new HumTape();
        Check.machine(x, 0, "hum 1;");
        Check.story(x, 0, "rec 4;");
        x.run(0);
        CHECK.due("no hum yet", 2100, x.alike(0, 0, 0));
        x.beats(0x01020000, 2);
        CHECK.due("two seconds have come", 2098, x.alike(0, 0, 0));
        Check.machine(x, 0, "hum 1;hiss 1;");
        CHECK.due("a machine as it is", 2094, x.alike(0, 0, 0));
        Check.story(x, 0, "rec 3;");
        CHECK.due("a story as it is", 2100 - 3 - 2 - 2, x.alike(0, 0, 0));
    }

    private static void alikeOfEachTape() {
        HumTape x = new HumTape();
        Check.story(x, 0, "rec 4;tape 1;at 0;rec 6;");
        Check.story(x, 1, "rec 3;tape 1;at 0;rec 6;");
        x.run(0);
        CHECK.due("tape 0", 2098, x.alike(0, 1, 0));
        CHECK.due("tape 1", 2100, x.alike(1, 1, 0));
        CHECK.due("tape 1 by none", 2088, x.alike(1, 2, 0));
    }

    private static void alikeChangesNothing() {
        HumTape x = new HumTape();
        Check.story(x, 0, "rec 4;");
        Check.story(x, 1, "rec 9;");
        x.run(0);
        x.heard(0, 1, 0, 77);
        x.alike(0, 1, 0);
        x.alike(1, 0, 1);
        CHECK.due("look(1)", 4, x.look(1));
        CHECK.due("look(3)", 0, x.look(3));
        CHECK.due("at", 77, x.at(0, 1, 0));
    }

    private static void likeliest() {
        HumTape x = new HumTape();
        CHECK.due("all alike", 0, x.alike(0, 0, 1));
        Check.story(x, 0, "at 1;");
        CHECK.due("fewer acts", 1, x.alike(0, 0, 1));
        for (int k = 1; k < 6; k++) {
            Check.story(x, k, "at 1;at 2;");
        }
        CHECK.due("fewest acts", 0, x.alike(0, 0, 1));
        Check.story(x, 4, "at 1;");
        CHECK.due("then the least", 0, x.alike(0, 0, 1));
        Check.story(x, 3, "talk 5;at 2;rec 4;rec 3;");
        Check.story(x, 5, "talk 5;at 2;rec 7;");
        x.run(3);
        CHECK.due("the most, of two the fewest acts", 5, x.alike(0, 0, 1));
        CHECK.due("k is not asked", 5, x.alike(0, MIN, 1));
        CHECK.due("k is not asked", 5, x.alike(0, MAX, 1));
        Check.story(x, 1, "talk 5;at 2;rec 7;");
        CHECK.due("then the least", 1, x.alike(0, 9, 1));
        x.heard(0, 2, 0, 6);
        CHECK.due("the most is enough", 1, x.alike(0, 0, 1));
        CHECK.due("tape 1 is blank", 0, x.alike(1, 0, 1));
    }

    private static void alikeWrong() {
        HumTape x = new HumTape();
        int[] wrongTapes = {-1, 2, MIN, MAX};
        for (int tape : wrongTapes) {
            CHECK.due("no such tape", -1, x.alike(tape, 0, 0));
            CHECK.due("no such tape", -1, x.alike(tape, 0, 1));
        }
        int[] wrongStories = {-1, 6, MIN, MAX};
        for (int k : wrongStories) {
            CHECK.due("no such story", -1, x.alike(0, k, 0));
        }
        CHECK.due("what 2", -1, x.alike(0, 0, 2));
        CHECK.due("what -1", -1, x.alike(0, 0, -1));
        CHECK.due("what MAX", -1, x.alike(0, 0, MAX));
    }

    private static void look() {
        HumTape x = new HumTape();
        x.beats(0, 3);
        x.drawn(4);
        Check.machine(x, 1, "width 2;");
        Check.story(x, 4, "rec 5;tape 1;at 0;rec 3;copy 0 2;machine 1;at 0;rec 1;tape 0;at 0;copy 0 3;");
        x.run(4);
        CHECK.due("seconds", 7, x.look(0));
        CHECK.due("tape 0", 5, x.look(1));
        CHECK.due("tape 1", 5, x.look(2));
        CHECK.due("story", 4, x.look(3));
        CHECK.due("left", 4, x.look(4));
        CHECK.due("copied", 5, x.look(5));
        x.heard(0, 4, 6, 9);
        x.heard(0, 0, 6, 0);
        x.heard(1, 4, 6, 9);
        CHECK.due("left as heard", 5, x.look(4));
        x.run(2);
        CHECK.due("story", 2, x.look(3));
        x.run(7);
        CHECK.due("story still", 2, x.look(3));
        CHECK.due("look(6)", -1, x.look(6));
        CHECK.due("look(-1)", -1, x.look(-1));
        CHECK.due("look(MIN)", -1, x.look(MIN));
        CHECK.due("look(MAX)", -1, x.look(MAX));
    }
}
