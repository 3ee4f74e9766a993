/** Boundary cases of the Terms' stories and readers, and of promises 24 to 27: alike, says, reader, look. */
final class StoryEdges {
    private static final int MAX = Edge.MAX;
    private static final int MIN = Edge.MIN;
    private static final int[][] WRONG = {{-1, 0, 0}, {2, 0, 0}, {0, -1, 0}, {0, 1, 0}, {0, 299, 298}, {0, 0, 300},
        {0, 300, 300}, {MIN, 0, 0}, {MAX, 0, 0}, {0, MIN, 0}, {0, 0, MAX}, {0, MIN, MAX}, {0, MAX, MIN}};
    private final Edge e;

    private StoryEdges(Edge e) {
        this.e = e;
    }

    static void all(Edge e) {
        StoryEdges edges = new StoryEdges(e);
        edges.none();
        edges.howAlike();
        edges.likeliest();
        edges.asks();
        edges.firstLine();
        edges.whatIsTrue();
        edges.rightAndLean();
        edges.alike();
        edges.alikeNone();
        edges.says();
        edges.reader();
        edges.readerNone();
        edges.look();
        edges.lookNone();
    }

    private void none() {
        e.ofTerms("None.");
        e.due("NONE", -1, HumTape.NONE);
    }

    private void howAlike() {
        e.ofTerms("ALIKE of a STORY for a TAPE as it is: of PLACES 0 .. 299 how many have, in a TAPE of that number RUN by it "
                + "(THE HUM as it is), the same SOUND, AIR, first and second BEAT, MARK, LEFT and HISS (each counts 1: 2100 "
                + "at most).");
        HumTape x = new HumTape();
        e.due("blank and blank", 2100, x.alike(0, 0, 0));
        x.beats(0x0A0B0C0D, 4);
        Check.machine(x, 0, "hum 1;hiss 9;start 1;stop 2;");
        Check.story(x, 0, "rec 300;");
        e.due("blank and 300: beats of four, marks of two", 2100 - 300 - 300 - 300 - 4 - 2, x.alike(0, 0, 0));
        x.run(0);
        e.due("as it was run", 2100, x.alike(0, 0, 0));
        int[] other = {9, 9, 9, 9, 8, 9, 9};
        for (int what = 0; what < 7; what++) {
            x.heard(0, what % 2 == 0 ? 0 : 1, what, other[what]);
            e.due("one less by " + what, 2099 - what, x.alike(0, 0, 0));
        }
        Check.machine(x, 1, "width 9;hum 1;hiss 9;start 1;stop 2;");
        Check.story(x, 1, "machine 1;rec 300;at 0;cut 1;at 0;second 0;rec 300;");
        e.due("width, what happened and joined do not count", 2093, x.alike(0, 1, 0));
        x.beats(0x20000000, 1);
        e.due("the hum as it is", 2092, x.alike(0, 0, 0));
        e.due("the other tape is blank", 2100, x.alike(1, 0, 0));
        Check.story(x, 2, "tape 1;at 299;rec 1;");
        e.due("the last place: sound, air, beat, mark, hiss", 2095, x.alike(1, 2, 0));
    }

    private void likeliest() {
        e.ofTerms("THE LIKELIEST: the STORY with the most, of several the one with the fewest acts, then the least.");
        HumTape x = new HumTape();
        e.due("all alike and empty", 0, x.alike(0, 0, 1));
        for (int k = 0; k < 5; k++) {
            Check.story(x, k, "at 1;at 1;");
        }
        e.due("the fewest acts", 5, x.alike(0, 0, 1));
        Check.story(x, 5, "at 1;at 1;");
        e.due("then the least", 0, x.alike(0, 0, 1));
        Check.story(x, 4, "rec 1;at 1;at 1;at 1;");
        Check.story(x, 0, "talk 2;rec 1;");
        x.run(4);
        e.due("the most, though with more acts", 4, x.alike(0, 0, 1));
        Check.story(x, 5, "rec 1;at 1;at 1;");
        e.due("as many, with fewer acts", 5, x.alike(0, 0, 1));
        Check.story(x, 2, "rec 1;at 1;at 1;");
        e.due("as many, then the least", 2, x.alike(0, 0, 1));
        Check.story(x, 3, "rec 1;");
        e.due("one act", 3, x.alike(0, 0, 1));
        e.due("tape 1 stays blank by all: the fewest acts", 3, x.alike(1, 0, 1));
        HumTape y = new HumTape();
        Check.story(y, 0, "rec 2;");
        Check.story(y, 1, "talk 5;rec 2;");
        y.run(1);
        e.due("story 1 has the most, with more acts than 0", 1, y.alike(0, 0, 1));
        y.run(0);
        e.due("story 0 has the most", 0, y.alike(0, 5, 1));
    }

    private void asks() {
        e.ofTerms("READERS ask of a PLACE mark, air (0 none: AIR and 1), jump, hiss, beats (how many it has), left, sound, "
                + "place, knew.");
        HumTape x = Check.ran(new int[] {0, 63}, "hum 1;hiss 9;stop 99;", "room 9;talk 99;rec 2;room 0;rec 1;erase 1;");
        x.heard(0, 1, 3, 0);
        x.heard(0, 1, 6, 99);
        e.so(x, true, "mark=0 and air=10 and jump=0 and hiss=9 and beats=1 and left=0 and sound=99 and place=0", 0, false);
        e.so(x, true, "mark=99 and air=10 and jump=63 and beats=2 and left=99 and place=1", 1, false);
        e.so(x, true, "air=1 and jump=0 and beats=0", 2, false);
        e.so(x, true, "air=0 and sound=0 and beats=0", 3, false);
        e.so(x, true, "air=0 and place=299 and knew=0", 299, false);
        e.so(x, true, "knew=1", 299, true);
    }

    private void firstLine() {
        e.ofTerms("A READER SAYS 1 wiped, 2 joined, 3 copied, 4 whole by the first line whose B is so, 0 without one.");
        HumTape x = new HumTape();
        e.due("an empty reader", 0, x.says(0, 0, 0, false));
        Check.reader(x, 0, "wiped when place=1;joined when place<3;copied when place<4;whole when place<5;"
                + "wiped when place=298;joined when place=1;");
        int[] due = {2, 1, 2, 3, 4, 0};
        for (int place = 0; place < due.length; place++) {
            e.due("place " + place, due[place], x.says(0, 0, place, false));
        }
        e.due("a later line", 1, x.says(0, 0, 298, false));
        e.due("no line", 0, x.says(0, 0, 299, false));
    }

    /** Tape 0: whole, wiped, over, joined and wiped, joined and copied; tape 1: copied, copied. */
    private static HumTape ofAll() {
        HumTape x = new HumTape();
        Check.story(x, 0, "rec 1;erase 1;rec 1;at 2;rec 2;erase 1;rec 1;copy 0 1;at 5;cut 1;at 3;cut 1;tape 1;at 0;copy 0 2;");
        x.run(0);
        String[] words = {"wiped", "joined", "copied", "whole"};
        for (int k = 0; k < 4; k++) {
            Check.reader(x, k, words[k] + " when 1=1;");
        }
        return x;
    }

    private void whatIsTrue() {
        e.ofTerms("TRUE is 2 if it is JOINED, else 1 if wiped, 3 if copied, else 4.");
        HumTape x = ofAll();
        int[] happened = {0, 1, 2, 1, 3};
        int[] due = {4, 1, 4, 2, 2};
        for (int place = 0; place < due.length; place++) {
            e.due("what happened to " + place, happened[place], x.at(0, place, 8));
            for (int k = 0; k < 4; k++) {
                e.due("is " + (k + 1) + " true of " + place, due[place] == k + 1 ? 1 : 0, x.reader(k, 0, place, place, 0));
            }
        }
        for (int k = 0; k < 4; k++) {
            e.due("is " + (k + 1) + " true of copied ones", k == 2 ? 2 : 0, x.reader(k, 1, 0, 299, 0));
        }
    }

    private void rightAndLean() {
        e.ofTerms("RIGHT of a READER on a PIECE: how many PLACES, not blank, of which he SAYS what is TRUE; LEAN: how many (not "
                + "blank) of which he SAYS another thing with knew 1 than with 0.");
        HumTape x = ofAll();
        e.due("whole, blank ones not", 2, x.reader(3, 0, 0, 299, 0));
        e.due("blank ones alone", 0, x.reader(3, 0, 5, 299, 0));
        Check.reader(x, 0, "whole when knew=1;");
        e.due("lean of five", 5, x.reader(0, 0, 0, 299, 2));
        e.due("lean of blank ones", 0, x.reader(0, 0, 5, 299, 2));
        Check.reader(x, 0, "whole when knew=1;whole when 1=1;");
        e.due("the same thing by another line", 0, x.reader(0, 0, 0, 299, 2));
        Check.reader(x, 0, "wiped when knew<1 and place=4;");
        e.due("something and nothing", 1, x.reader(0, 0, 0, 299, 2));
        HumTape full = Check.ran(new int[] {}, "", "rec 300;");
        Check.reader(full, 0, "whole when knew=0;");
        e.due("right of all", 300, full.reader(0, 0, 0, 299, 0));
        e.due("right of none", 0, full.reader(0, 0, 0, 299, 1));
        e.due("lean of all", 300, full.reader(0, 0, 0, 299, 2));
    }

    private void alike() {
        e.of(24, "What 0 ALIKE of a STORY for a TAPE; 1 THE LIKELIEST for it (k not asked).");
        HumTape x = new HumTape();
        Check.story(x, 0, "rec 1;");
        Check.story(x, 5, "rec 2;tape 1;at 0;rec 300;");
        e.due("run", 302, x.run(5));
        e.due("story 5 for tape 0", 2100, x.alike(0, 5, 0));
        e.due("story 5 for tape 1", 2100, x.alike(1, 5, 0));
        e.due("story 0 for tape 0: sound and air", 2098, x.alike(0, 0, 0));
        e.due("story 0 for tape 1", 1500, x.alike(1, 0, 0));
        int[] any = {0, 5, 6, -1, MIN, MAX};
        for (int k : any) {
            e.due("the likeliest, k " + k, 5, x.alike(0, k, 1));
            e.due("the likeliest for tape 1, k " + k, 5, x.alike(1, k, 1));
        }
        e.due("the tapes stay", 300, x.look(2));
        e.due("the story that was run last stays", 5, x.look(3));
    }

    private void alikeNone() {
        e.of(24, "NONE if one can't be, or another what.");
        HumTape x = new HumTape();
        int[] wrongTapes = {-1, 2, MIN, MAX};
        int[] wrongStories = {-1, 6, MIN, MAX};
        int[] wrongWhats = {-1, 2, MIN, MAX};
        for (int tape : wrongTapes) {
            e.due("tape " + tape + ", alike", -1, x.alike(tape, 0, 0));
            e.due("tape " + tape + ", the likeliest", -1, x.alike(tape, 0, 1));
        }
        for (int k : wrongStories) {
            e.due("story " + k, -1, x.alike(0, k, 0));
        }
        for (int what : wrongWhats) {
            e.due("what " + what, -1, x.alike(0, 0, what));
        }
    }

    private void says() {
        e.of(25, "What a READER SAYS of a PLACE, with knew 0 or 1; NONE if one can't be.");
        HumTape x = Check.ran(new int[] {}, "", "rec 1;tape 1;at 299;rec 1;");
        Check.reader(x, 0, "wiped when sound=0 and knew=1;copied when sound=0;");
        Check.reader(x, 3, "joined when sound=1;");
        e.due("a blank place, knew 1", 1, x.says(0, 0, 299, true));
        e.due("a blank place, knew 0", 3, x.says(0, 0, 299, false));
        e.due("place 0 of tape 0", 2, x.says(3, 0, 0, true));
        e.due("place 299 of tape 1", 2, x.says(3, 1, 299, false));
        e.due("no line", 0, x.says(3, 1, 298, false));
        int[] wrongReaders = {-1, 4, MIN, MAX};
        for (int k : wrongReaders) {
            e.due("reader " + k, -1, x.says(k, 0, 0, true));
        }
        int[] wrongTapes = {-1, 2, MIN, MAX};
        for (int tape : wrongTapes) {
            e.due("tape " + tape, -1, x.says(0, tape, 0, false));
        }
        int[] wrongPlaces = {-1, 300, MIN, MAX};
        for (int place : wrongPlaces) {
            e.due("place " + place, -1, x.says(0, 0, place, true));
        }
    }

    private void reader() {
        e.of(26, "Of a READER on a PIECE what 0 RIGHT (knew 0), 1 RIGHT (knew 1), 2 LEAN.");
        HumTape x = Check.ran(new int[] {}, "", "rec 3;erase 297;");
        Check.reader(x, 3, "whole when knew=0 and place<2;whole when knew=1 and place=2;wiped when place=299;");
        e.due("right, knew 0", 3, x.reader(3, 0, 0, 299, 0));
        e.due("right, knew 1", 2, x.reader(3, 0, 0, 299, 1));
        e.due("lean", 3, x.reader(3, 0, 0, 299, 2));
        e.due("the last place", 1, x.reader(3, 0, 299, 299, 0));
        e.due("the first place", 1, x.reader(3, 0, 0, 0, 0));
        e.due("the first place, knew 1", 0, x.reader(3, 0, 0, 0, 1));
        e.due("all but the ends", 1, x.reader(3, 0, 1, 298, 0));
        e.due("blank ones", 0, x.reader(3, 1, 0, 299, 2));
    }

    private void readerNone() {
        e.of(26, "NONE if one can't be, or another what.");
        HumTape x = Check.ran(new int[] {}, "", "rec 3;");
        for (int what = 0; what < 3; what++) {
            int[] wrongReaders = {-1, 4, MIN, MAX};
            for (int k : wrongReaders) {
                e.due("reader " + k + ", what " + what, -1, x.reader(k, 0, 0, 2, what));
            }
            for (int[] w : WRONG) {
                e.due("reader(0, " + w[0] + ", " + w[1] + ", " + w[2] + ", " + what + ")", -1,
                        x.reader(0, w[0], w[1], w[2], what));
            }
        }
        int[] wrongWhats = {-1, 3, MIN, MAX};
        for (int what : wrongWhats) {
            e.due("what " + what, -1, x.reader(0, 0, 0, 2, what));
        }
    }

    private void look() {
        e.of(27, "What 0 seconds of THE HUM, 1, 2 PLACES of TAPES 0, 1 that are not blank, 3 the STORY that was RUN last (NONE), "
                + "4 PLACES of both with LEFT, 5 PLACES of both that were copied.");
        HumTape x = new HumTape();
        int[] atFirst = {0, 0, 0, -1, 0, 0};
        for (int what = 0; what < 6; what++) {
            e.due("look(" + what + ") at first", atFirst[what], x.look(what));
        }
        for (int i = 0; i < 4; i++) {
            x.drawn(500);
        }
        e.due("all seconds", 2000, x.look(0));
        Check.machine(x, 1, "width 1;");
        Check.story(x, 5, "rec 300;machine 1;tape 1;copy 0 1;at 0;copy 0 300;tape 0;at 0;copy 0 300;");
        x.run(5);
        int[] due = {2000, 300, 300, 5, 300, 600};
        for (int what = 0; what < 6; what++) {
            e.due("look(" + what + ")", due[what], x.look(what));
        }
        Check.story(x, 4, "copy 0 2;tape 1;at 0;copy 0 5;");
        x.run(4);
        e.due("copied on both, not as many", 7, x.look(5));
        e.due("PLACES of tape 0", 2, x.look(1));
        e.due("PLACES of tape 1", 5, x.look(2));
        x.run(5);
        x.heard(1, 299, 6, 99);
        x.heard(0, 0, 6, 0);
        x.heard(0, 1, 6, 0);
        e.due("LEFT as heard", 299, x.look(4));
        e.due("an empty story", 0, x.run(0));
        int[] then = {2000, 0, 0, 0, 0, 0};
        for (int what = 0; what < 6; what++) {
            e.due("look(" + what + ") behind an empty story", then[what], x.look(what));
        }
        x.run(6);
        e.due("no such story was not run", 0, x.look(3));
    }

    private void lookNone() {
        e.of(27, "NONE for another what.");
        HumTape x = Check.ran(new int[] {1, 2, 3}, "", "rec 3;");
        int[] wrongWhats = {-1, 6, 7, MIN, MAX};
        for (int what : wrongWhats) {
            e.due("look(" + what + ")", -1, x.look(what));
        }
    }
}
