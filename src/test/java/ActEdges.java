/** Boundary cases of the Terms' tapes and acts, and of promises 11 to 13: run, at, heard. */
final class ActEdges {
    private static final int MAX = Edge.MAX;
    private static final int MIN = Edge.MIN;
    private static final int[] HUM = {10, 11, 12, 13, 14, 15, 16, 17, 18, 19};
    private static final String FULL = "start 10;stop 20;wipe 30;lift 40;width 5;hiss 2;hum 1;";
    private final Edge e;

    private ActEdges(Edge e) {
        this.e = e;
    }

    static void all(Edge e) {
        ActEdges edges = new ActEdges(e);
        edges.places();
        edges.valuesOfPlaces();
        edges.blank();
        edges.runBegins();
        edges.settings();
        edges.recAsMany();
        edges.recLeaves();
        edges.recBeside();
        edges.recSecond();
        edges.recMarks();
        edges.recAt();
        edges.erase();
        edges.copyAsMany();
        edges.copyLeaves();
        edges.copyBeats();
        edges.copyHiss();
        edges.copyElse();
        edges.cut();
        edges.happened();
        edges.joined();
        edges.heardBySpeed();
        edges.run();
        edges.runNone();
        edges.at();
        edges.atNone();
        edges.heard();
        edges.heardRefused();
    }

    private static HumTape ran(String story) {
        return Check.ran(HUM, FULL, story);
    }

    /** Three machines: 0 the full one, 1 of width 1 and speed 50, 2 of width 9 and nothing else. */
    private static HumTape ofThree(String story) {
        HumTape x = new HumTape();
        for (int beat : HUM) {
            x.beats(beat << 24, 1);
        }
        Check.machine(x, 0, FULL);
        Check.machine(x, 1, "width 1;hum 1;speed 50;hiss 9;start 11;stop 21;wipe 31;lift 41;");
        Check.machine(x, 2, "width 9;");
        if (Check.story(x, 0, story) < 0) {
            throw new IllegalStateException(story);
        }
        x.run(0);
        return x;
    }

    private void places() {
        e.ofTerms("TAPES 0 and 1 have PLACES 0 .. 299, a second each.");
        HumTape x = ran("rec 300;tape 1;at 299;rec 300;");
        e.due("PLACES of tape 0", 300, x.look(1));
        e.due("PLACES of tape 1", 1, x.look(2));
        e.due("at(0, 299, 7)", 5, x.at(0, 299, 7));
        e.due("at(1, 299, 7)", 5, x.at(1, 299, 7));
        e.due("at(0, 300, 7)", -2, x.at(0, 300, 7));
        e.due("at(2, 0, 7)", -2, x.at(2, 0, 7));
        e.due("a second each: 0", 10, x.at(0, 0, 2));
        e.due("a second each: 9", 19, x.at(0, 9, 2));
    }

    private void valuesOfPlaces() {
        e.ofTerms("A PLACE has a SOUND 0 .. 99 (0 none), an AIR 0 .. 9 (a room), NONE, up to two BEATS (first, second; "
                + "NONE), HISS 0 .. 99, a MARK 0 .. 99 (0 none), LEFT 0 .. 99 (a SOUND beside the track, 0 none), "
                + "WIDTH 0 .. 9 (of what is on it; 0 blank).");
        HumTape x = Check.ran(new int[] {63, 63}, "start 99;stop 99;width 9;hiss 9;hum 1;speed 50;",
                "talk 99;room 9;rec 1;tape 1;copy 0 1;machine 1;at 0;erase 1;");
        e.place(x, 0, 0, 99, 9, 63, -1, 9, 99, 0, 9, 0, 0);
        e.place(x, 1, 0, 0, -1, -1, -1, 0, 0, 0, 5, 1, 0);
        e.place(x, 1, 1, 99, 9, 63, 63, 18, 99, 0, 9, 3, 0);
        HumTape y = ofThree("talk 99;machine 2;rec 1;machine 1;at 0;rec 1;");
        e.due("the greatest LEFT", 99, y.at(0, 0, 6));
        e.due("the least WIDTH that is not blank", 1, y.at(0, 0, 7));
    }

    private void blank() {
        e.ofTerms("Blank: 0, AIR and BEATS NONE.");
        HumTape x = ran("rec 2;at 299;rec 1;at 0;cut 1;");
        e.blank(x, 0, 1);
        e.blank(x, 0, 297);
        e.blank(x, 0, 299);
        e.blank(x, 1, 0);
        x.run(5);
        e.blank(x, 0, 0);
        e.blank(x, 0, 298);
    }

    private void runBegins() {
        e.ofTerms("RUN of a STORY: both TAPES are blank; MACHINE 0, TAPE 0, at 0, room 0, second 0, talk 1.");
        HumTape x = ofThree("tape 1;machine 2;at 7;room 9;second 5;talk 99;rec 3;tape 0;rec 1;");
        Check.story(x, 1, "rec 1;");
        e.due("run of one rec", 1, x.run(1));
        e.place(x, 0, 0, 1, 0, 10, -1, 2, 20, 0, 5, 0, 0);
        e.blank(x, 1, 7);
        e.blank(x, 0, 10);
        e.due("run of it again: over nothing", 1, x.run(1));
        e.due("it is whole again", 0, x.at(0, 0, 8));
    }

    private void settings() {
        e.ofTerms("machine, tape, at, room, second, talk: from then on.");
        HumTape x = ofThree("rec 1;machine 1;tape 1;at 299;room 9;second 9;talk 99;rec 1;at 0;rec 1;tape 0;at 5;rec 1;"
                + "machine 5;rec 1;");
        e.place(x, 0, 0, 1, 0, 10, -1, 2, 20, 0, 5, 0, 0);
        e.place(x, 1, 299, 99, 9, 38, -1, 9, 21, 0, 1, 0, 0);
        e.place(x, 1, 0, 99, 9, -1, -1, 9, 21, 0, 1, 0, 0);
        e.place(x, 0, 5, 99, 9, -1, -1, 9, 21, 0, 1, 0, 0);
        e.place(x, 0, 6, 99, 9, -1, -1, 0, 0, 0, 5, 0, 0);
        HumTape y = ran("at 4;at 2;talk 5;talk 3;rec 1;");
        e.due("the later one counts", 3, y.at(0, 2, 0));
        e.due("the later one counts", 1, y.look(1));
    }

    private void recAsMany() {
        e.ofTerms("rec n: PLACES from at on (as many of n as there are) are each gone over:");
        HumTape x = ran("at 298;rec 3;");
        e.due("two of three", 2, x.look(1));
        e.blank(x, 0, 297);
        e.due("the last one is gone over", 1, x.at(0, 299, 0));
        e.due("300 of 300", 300, ran("rec 300;").look(1));
        e.due("299 of 300", 299, ran("rec 299;").look(1));
        e.due("299 from 1 on", 299, ran("at 1;rec 300;").look(1));
        HumTape y = ran("rec 300;talk 9;rec 1;");
        e.due("none behind the last", 300, y.look(1));
        e.due("none behind the last: not the first either", 1, y.at(0, 0, 0));
        e.due("none behind the last: not the last either", 1, y.at(0, 299, 0));
    }

    private void recLeaves() {
        e.ofTerms("SOUND talk, AIR room, first BEAT THE HUM's of the second (if the MACHINE has hum, and there is one) "
                + "times 100 by the MACHINE's speed, 63 at most, no second one, HISS the MACHINE's, MARK 0;");
        HumTape x = Check.ran(new int[] {31, 32, 63, 0, 1}, "hum 1;speed 50;hiss 9;", "talk 99;room 9;rec 6;");
        int[] beats = {62, 63, 63, 0, 2, -1};
        for (int place = 0; place < 6; place++) {
            e.place(x, 0, place, 99, 9, beats[place], -1, 9, 0, 0, 5, 0, 0);
        }
        HumTape y = Check.ran(new int[] {1, 2, 63}, "hum 1;speed 150;", "rec 3;");
        e.due("1 by 150", 0, y.at(0, 0, 2));
        e.due("2 by 150", 1, y.at(0, 1, 2));
        e.due("63 by 150", 42, y.at(0, 2, 2));
        e.due("37 by 59", 62, Check.ran(new int[] {37}, "hum 1;speed 59;", "rec 1;").at(0, 0, 2));
        e.due("a machine without hum", -1, ofThree("machine 2;rec 1;").at(0, 0, 2));
        HumTape z = ran("second 9;rec 2;second 1999;rec 1;");
        e.due("the last second that is there", 19, z.at(0, 0, 2));
        e.due("one behind it", -1, z.at(0, 1, 2));
        e.due("second 1999 of ten", -1, z.at(0, 2, 2));
        HumTape w = ran("rec 3;tape 1;at 0;copy 0 3;at 0;rec 3;");
        e.due("no second one", -1, w.at(1, 1, 3));
        e.due("hiss does not add up", 2, w.at(1, 1, 4));
        e.due("no mark within", 0, ran("rec 1;rec 1;rec 1;at 0;rec 3;").at(0, 1, 5));
    }

    private void recBeside() {
        e.ofTerms("LEFT: the SOUND that was there, if its WIDTH is above the MACHINE's, else 0; WIDTH the MACHINE's;");
        HumTape x = ofThree("talk 7;rec 2;machine 1;talk 8;at 0;rec 1;");
        e.due("5 is above 1: left", 7, x.at(0, 0, 6));
        e.due("width then", 1, x.at(0, 0, 7));
        HumTape y = ofThree("talk 7;rec 1;talk 8;at 0;rec 1;");
        e.due("5 is not above 5: left", 0, y.at(0, 0, 6));
        HumTape z = ofThree("talk 7;rec 1;machine 2;talk 8;at 0;rec 1;");
        e.due("5 is not above 9: left", 0, z.at(0, 0, 6));
        e.due("width then", 9, z.at(0, 0, 7));
        HumTape w = ofThree("machine 2;erase 1;machine 1;talk 8;at 0;rec 1;at 0;rec 1;");
        e.due("a wider one without sound", 0, w.at(0, 0, 6));
        HumTape v = ofThree("talk 7;machine 2;rec 1;machine 0;talk 8;at 0;rec 1;machine 1;talk 9;at 0;rec 1;");
        e.due("what was left is not kept, the sound there is", 8, v.at(0, 0, 6));
        HumTape u = ofThree("talk 7;machine 2;rec 1;machine 0;at 0;rec 1;at 0;rec 1;");
        e.due("once more by one as wide: left is gone", 0, u.at(0, 0, 6));
        e.due("a blank one leaves nothing", 0, ofThree("rec 1;").at(0, 0, 6));
    }

    private void recSecond() {
        e.ofTerms("then second is one more.");
        HumTape x = ran("rec 2;at 0;rec 1;at 299;rec 9;at 5;rec 1;");
        e.due("two on", 12, x.at(0, 0, 2));
        e.due("three on", 13, x.at(0, 299, 2));
        e.due("only for places gone over", 14, x.at(0, 5, 2));
        HumTape y = ran("second 1999;rec 3;second 0;rec 1;");
        e.due("seconds do not wrap", -1, y.at(0, 1, 2));
        e.due("told anew", 10, y.at(0, 3, 2));
        HumTape z = ofThree("machine 2;rec 4;machine 0;rec 1;");
        e.due("without hum too", 14, z.at(0, 4, 2));
    }

    private void recMarks() {
        e.ofTerms("The first one's MARK is start, the last one's stop (if they are one: stop).");
        HumTape x = ran("rec 3;rec 2;rec 1;at 298;rec 5;");
        int[] due = {10, 0, 20, 10, 20, 20};
        for (int place = 0; place < due.length; place++) {
            e.due("mark of " + place, due[place], x.at(0, place, 5));
        }
        e.due("first of two that there are", 10, x.at(0, 298, 5));
        e.due("last of two that there are", 20, x.at(0, 299, 5));
        e.due("one that there is", 20, ran("at 299;rec 5;").at(0, 299, 5));
        HumTape y = ofThree("rec 2;machine 2;at 0;rec 2;");
        e.due("a machine without marks", 0, y.marks(0, 0, 1, 0));
    }

    private void recAt() {
        e.ofTerms("at is behind the last one then.");
        HumTape x = ran("at 2;rec 3;talk 9;rec 1;");
        e.due("behind the last one", 9, x.at(0, 5, 0));
        e.due("not on it", 1, x.at(0, 4, 0));
        HumTape y = ran("at 299;rec 1;talk 9;rec 1;erase 1;cut 1;tape 1;rec 1;at 3;rec 1;");
        e.due("behind 299 there is none", 1, y.at(0, 299, 0));
        e.due("on another tape neither", 1, y.look(2));
        e.due("till at is told", 9, y.at(1, 3, 0));
    }

    private void erase() {
        e.ofTerms("erase n: likewise, with SOUND 0, AIR NONE, MARKS wipe and lift.");
        HumTape x = ran("talk 7;room 3;rec 3;at 0;erase 3;erase 1;");
        e.place(x, 0, 0, 0, -1, 13, -1, 2, 30, 0, 5, 1, 0);
        e.place(x, 0, 1, 0, -1, 14, -1, 2, 0, 0, 5, 1, 0);
        e.place(x, 0, 2, 0, -1, 15, -1, 2, 40, 0, 5, 1, 0);
        e.place(x, 0, 3, 0, -1, 16, -1, 2, 40, 0, 5, 1, 0);
        HumTape y = ofThree("talk 7;rec 1;machine 1;at 0;erase 1;at 298;erase 300;erase 1;at 9;rec 1;");
        e.place(y, 0, 0, 0, -1, 22, -1, 9, 41, 7, 1, 1, 0);
        e.due("as many as there are", 4, y.look(1));
        e.due("the last one", 41, y.at(0, 299, 5));
        e.due("seconds only by places that there are", 28, y.at(0, 9, 2));
    }

    private void copyAsMany() {
        e.ofTerms("copy a n: from the other TAPE's PLACES a on (as many as there are on both):");
        HumTape x = ran("at 298;rec 2;tape 1;at 0;copy 298 300;rec 1;");
        e.due("two that there are on the other", 3, x.look(2));
        e.due("the last of them", 20, x.at(1, 1, 5));
        e.due("at is behind it", 0, x.at(1, 2, 8));
        HumTape y = ran("rec 9;tape 1;at 298;copy 2 9;copy 0 1;at 0;rec 1;");
        e.due("two that there are on this", 3, y.look(2));
        e.due("from place 2 on", 12, y.at(1, 298, 2));
        e.due("the last of them", 13, y.at(1, 299, 2));
        e.due("seconds only by places that there are", -1, y.at(1, 0, 2));
        e.due("one from 299 on", 1, ran("tape 1;at 5;copy 299 9;").look(2));
        e.due("all 300", 300, ran("tape 1;copy 0 300;").look(2));
        HumTape z = ran("tape 1;rec 2;tape 0;at 0;copy 0 2;");
        e.due("the other of tape 0 is tape 1", 3, z.at(0, 1, 8));
        e.due("the other stays as it was", 0, z.at(1, 1, 8));
    }

    private void copyLeaves() {
        e.ofTerms("SOUND, AIR and first BEAT are those of that PLACE;");
        HumTape x = ran("talk 99;room 9;rec 1;talk 5;room 5;second 0;tape 1;at 0;copy 0 2;");
        e.place(x, 1, 0, 99, 9, 10, 10, 4, 10, 0, 5, 3, 0);
        e.place(x, 1, 1, 0, -1, 11, -1, 2, 20, 0, 5, 3, 0);
        HumTape y = ran("erase 1;tape 1;at 0;copy 0 1;");
        e.place(y, 1, 0, 0, -1, 10, 11, 4, 20, 0, 5, 3, 0);
    }

    private void copyBeats() {
        e.ofTerms("the second BEAT is what rec would leave as the first; if that one has no first, it is the first;");
        HumTape x = ofThree("rec 1;machine 2;rec 1;machine 1;tape 1;at 0;copy 0 2;second 8;rec 1;copy 0 1;");
        e.due("both: first", 10, x.at(1, 0, 2));
        e.due("both: second, by 50", 24, x.at(1, 0, 3));
        e.due("that one has none: first", 26, x.at(1, 1, 2));
        e.due("that one has none: second", -1, x.at(1, 1, 3));
        HumTape y = ofThree("rec 1;tape 1;machine 2;at 0;copy 0 1;machine 0;second 9;tape 0;at 5;copy 0 1;copy 0 1;");
        e.due("a machine without hum: first", 10, y.at(1, 0, 2));
        e.due("a machine without hum: second", -1, y.at(1, 0, 3));
        e.due("the last second", 19, y.at(0, 5, 3));
        e.due("a second that is not there: first", 10, y.at(0, 6, 2));
        e.due("a second that is not there: second", -1, y.at(0, 6, 3));
        HumTape z = ofThree("rec 1;machine 1;tape 1;at 0;copy 0 1;second 9;tape 0;at 0;copy 0 1;second 5;tape 1;at 0;"
                + "copy 0 1;");
        e.due("a copy of two has the first", 10, z.at(0, 0, 2));
        e.due("a copy of two has a new second", 38, z.at(0, 0, 3));
        e.due("again", 30, z.at(1, 0, 3));
        HumTape w = ofThree("machine 2;rec 1;tape 1;at 0;copy 0 1;");
        e.due("neither has one: first", -1, w.at(1, 0, 2));
        e.due("neither has one: second", -1, w.at(1, 0, 3));
        HumTape v = Check.ran(new int[] {0, 63}, "hum 1;speed 50;", "rec 1;tape 1;at 0;copy 0 1;");
        e.due("a first of 0 is one", 0, v.at(1, 0, 2));
        e.due("63 at most", 63, v.at(1, 0, 3));
    }

    private void copyHiss() {
        e.ofTerms("HISS that one's and the MACHINE's, 99 at most;");
        StringBuilder story = new StringBuilder("rec 1;");
        for (int i = 0; i < 11; i++) {
            HumTape x = Check.ran(HUM, "hiss 9;", story.toString());
            e.due("copied " + i + " times", Math.min(99, 9 * (i + 1)), x.at(i % 2, 0, 4));
            story.append("tape ").append(1 - i % 2).append(";at 0;copy 0 1;");
        }
        HumTape y = Check.ran(HUM, "", "rec 1;tape 1;at 0;copy 0 1;");
        e.due("0 and 0", 0, y.at(1, 0, 4));
    }

    private void copyElse() {
        e.ofTerms("else as rec (with MARKS start, stop).");
        HumTape x = ofThree("talk 7;rec 3;tape 1;at 0;talk 8;rec 3;machine 1;at 0;copy 0 3;copy 0 1;");
        int[] marks = {11, 0, 21, 21};
        int[] left = {8, 8, 8, 0};
        int[] seconds = {32, 34, 36, 38};
        for (int place = 0; place < 4; place++) {
            e.due("mark of " + place, marks[place], x.at(1, place, 5));
            e.due("left of " + place, left[place], x.at(1, place, 6));
            e.due("width of " + place, 1, x.at(1, place, 7));
            e.due("second beat of " + place, seconds[place], x.at(1, place, 3));
        }
        HumTape y = ofThree("machine 2;talk 6;rec 1;machine 1;at 0;talk 5;rec 1;machine 0;tape 1;at 0;copy 0 1;");
        e.due("what is left beside the other is not copied", 0, y.at(1, 0, 6));
    }

    private void cut() {
        e.ofTerms("cut n: n PLACES from at on (as many as there are) are gone, those behind move up, blank ones come at "
                + "the end.");
        HumTape x = ran("rec 6;at 2;cut 3;");
        e.due("three are gone", 3, x.look(1));
        e.place(x, 0, 1, 1, 0, 11, -1, 2, 0, 0, 5, 0, 0);
        e.place(x, 0, 2, 1, 0, 15, -1, 2, 20, 0, 5, 0, 1);
        e.blank(x, 0, 3);
        HumTape y = ran("rec 300;at 299;cut 300;");
        e.due("the last one", 299, y.look(1));
        e.blank(y, 0, 299);
        e.due("all of them", 0, ran("rec 300;at 0;cut 300;").look(1));
        e.due("299 of them", 1, ran("rec 300;at 0;cut 299;").look(1));
        e.due("none behind the last", 300, ran("rec 300;cut 300;").look(1));
        HumTape z = ran("rec 300;at 1;cut 298;second 5;rec 1;");
        e.due("the last one moves up", 15, z.at(0, 1, 2));
        e.due("at stays, so rec is over it", 2, z.at(0, 1, 8));
        e.due("second stays as told", 2, z.look(1));
        HumTape w = ran("rec 3;tape 1;at 0;rec 3;at 0;cut 2;");
        e.due("the other tape stays", 3, w.look(1));
        e.due("this tape", 1, w.look(2));
        e.due("marks move", 20, w.at(1, 0, 5));
        e.due("cuts take no seconds", 14, ran("rec 4;at 0;cut 3;at 9;rec 1;").at(0, 9, 2));
        e.due("blank ones may be cut", 4, ran("rec 4;at 100;cut 50;").look(1));
    }

    private void happened() {
        e.ofTerms("What HAPPENED to a PLACE is kept with it (it moves by cut): 0 whole (rec on a blank one) or blank, "
                + "1 wiped (erase), 2 over (rec on one that is not blank), 3 copied;");
        HumTape x = ran("rec 1;erase 1;rec 1;at 2;rec 1;copy 0 1;at 7;rec 1;");
        int[] due = {0, 1, 2, 3, 0, 0, 0, 0};
        for (int place = 0; place < 8; place++) {
            e.due("what happened to " + place, due[place], x.at(0, place, 8));
        }
        HumTape moved = ran("rec 1;erase 1;rec 1;at 2;rec 1;copy 0 1;at 0;cut 1;");
        int[] then = {1, 2, 3, 0};
        for (int place = 0; place < 4; place++) {
            e.due("moved by a cut, " + place, then[place], moved.at(0, place, 8));
        }
        e.due("rec on a wiped one", 2, ran("erase 1;at 0;rec 1;").at(0, 0, 8));
        e.due("rec on a copied one", 2, ran("copy 0 1;at 0;rec 1;").at(0, 0, 8));
        e.due("erase on a blank one", 1, ran("erase 1;").at(0, 0, 8));
        e.due("erase on an over one", 1, ran("rec 1;at 0;rec 1;at 0;erase 1;").at(0, 0, 8));
        e.due("copy on one that is not blank", 3, ran("rec 1;at 0;copy 0 1;").at(0, 0, 8));
        e.due("rec where all was cut", 0, ran("rec 1;at 0;cut 1;rec 1;").at(0, 0, 8));
    }

    private void joined() {
        e.ofTerms("and whether it is JOINED: the one (not blank) that came to at by a cut, till it is gone over (at stays "
                + "with a cut).");
        HumTape x = ran("rec 9;at 3;cut 2;at 6;cut 1;at 1;cut 1;");
        int[] due = {0, 1, 1, 0, 0, 0, 0};
        for (int place = 0; place < 7; place++) {
            e.due("joined, " + place, due[place], x.at(0, place, 9));
        }
        e.due("a blank one is not", 0, ran("rec 9;at 3;cut 6;").at(0, 3, 9));
        e.due("the last of the tape is", 1, ran("rec 300;at 298;cut 1;").at(0, 298, 9));
        e.due("none behind the last", 0, ran("rec 300;cut 1;").at(0, 299, 9));
        e.due("one that came over blank ones is", 1, ran("at 9;rec 2;at 0;cut 9;").at(0, 0, 9));
        String[] over = {"rec 1;", "erase 1;", "copy 0 1;", "at 0;rec 9;"};
        for (String act : over) {
            e.due("till " + act, 0, ran("rec 9;at 3;cut 1;" + act).at(0, 3, 9));
        }
        HumTape y = ran("rec 9;at 3;cut 1;cut 1;cut 1;rec 1;");
        e.due("at stays with a cut", 2, y.at(0, 3, 8));
        e.due("the next one is not joined", 0, y.at(0, 4, 9));
        HumTape z = ran("rec 9;at 3;cut 1;tape 1;at 0;copy 3 1;");
        e.due("a copy of it is not", 0, z.at(1, 0, 9));
        e.due("it is still", 1, z.at(0, 3, 9));
        e.due("a cut on the other tape", 0, ran("rec 9;tape 1;at 3;cut 1;").at(0, 3, 9));
    }

    private void heardBySpeed() {
        e.ofTerms("BEATS as heard by a speed: BEAT times speed by 100.");
        HumTape x = Check.ran(new int[] {0, 31, 63}, "", "rec 3;");
        x.heard(0, 0, 2, 63);
        x.heard(0, 1, 2, 1);
        x.heard(0, 2, 2, 0);
        e.due("63 by 50 is 31", 0, x.slide(0, 0, 0, 0, 50, 0, 3));
        e.due("63 by 51 is 32", 1, x.slide(0, 0, 0, 0, 51, 0, 3));
        e.due("63 by 150 is 94", 31, x.slide(0, 0, 0, 0, 150, 0, 3));
        e.due("1 by 99 is 0", 0, x.slide(0, 1, 1, 0, 99, 0, 3));
        e.due("1 by 100 is 1", 1, x.slide(0, 1, 1, 0, 100, 0, 3));
        e.due("1 by 150 is 1", 1, x.slide(0, 1, 1, 0, 150, 0, 3));
        e.due("0 by 150 is 0", 0, x.slide(0, 2, 2, 0, 150, 0, 3));
    }

    private void run() {
        e.of(11, "RUN of a STORY: how many PLACES of both TAPES are not blank;");
        HumTape x = new HumTape();
        e.due("an empty story", 0, x.run(0));
        Check.story(x, 5, "rec 300;tape 1;at 0;erase 300;");
        e.due("all places of both", 600, x.run(5));
        Check.story(x, 4, "tape 1;at 299;copy 0 1;");
        e.due("one", 1, x.run(4));
        Check.story(x, 4, "rec 3;at 0;cut 3;");
        e.due("none are left", 0, x.run(4));
        Check.story(x, 4, "oops");
        e.due("the story as it was", 0, x.run(4));
    }

    private void runNone() {
        e.of(11, "NONE if there is none such.");
        HumTape x = ran("rec 6;");
        int[] wrong = {-1, 6, MIN, MAX};
        for (int k : wrong) {
            e.due("run(" + k + ")", -1, x.run(k));
            e.due("nothing was run", 6, x.look(1));
            e.due("look(3)", 0, x.look(3));
        }
    }

    private void at() {
        e.of(12, "Of a PLACE what 0 SOUND, 1 AIR, 2 first, 3 second BEAT, 4 HISS, 5 MARK, 6 LEFT, 7 WIDTH, 8 what "
                + "HAPPENED, 9 whether it is JOINED (1, 0).");
        HumTape x = ofThree("rec 1;tape 1;at 298;machine 2;talk 9;room 6;rec 1;machine 1;at 298;copy 0 1;tape 0;at 8;"
                + "erase 2;at 7;cut 1;");
        e.place(x, 1, 298, 1, 0, 10, 24, 11, 21, 9, 1, 3, 0);
        e.place(x, 0, 7, 0, -1, 26, -1, 9, 31, 0, 1, 1, 1);
        e.place(x, 0, 8, 0, -1, 28, -1, 9, 41, 0, 1, 1, 0);
        e.blank(x, 1, 299);
        e.blank(x, 0, 299);
    }

    private void atNone() {
        e.of(12, "NONE - 1 if there is none such, or another what.");
        HumTape x = ran("rec 300;");
        int[][] wrong = {{-1, 0, 0}, {2, 0, 0}, {0, -1, 0}, {0, 300, 0}, {1, 300, 9}, {0, 0, -1}, {0, 0, 10},
            {MIN, 0, 0}, {MAX, 0, 0}, {0, MIN, 0}, {0, MAX, 0}, {0, 0, MIN}, {0, 0, MAX}};
        for (int[] w : wrong) {
            e.due("at(" + w[0] + ", " + w[1] + ", " + w[2] + ")", -2, x.at(w[0], w[1], w[2]));
        }
    }

    private void heard() {
        e.of(13, "A PLACE is told as heard: what 0 .. 6 as for at(): true;");
        int[] least = {0, -1, 0, -1, 0, 0, 0};
        int[] most = {99, 9, 63, 63, 99, 99, 99};
        for (int what = 0; what < 7; what++) {
            HumTape x = ran("rec 2;tape 1;at 298;rec 2;");
            int[] due = {1, 0, 10, -1, 2, 10, 0, 5, 0, 0};
            e.due("heard the most of " + what, true, x.heard(0, 0, what, most[what]));
            due[what] = most[what];
            e.place(x, 0, 0, due);
            e.due("heard the least of " + what, true, x.heard(0, 0, what, least[what]));
            due[what] = least[what];
            e.place(x, 0, 0, due);
            e.due("heard on tape 1, 299", true, x.heard(1, 299, what, most[what]));
            e.due("at(1, 299, " + what + ")", most[what], x.at(1, 299, what));
        }
        HumTape y = ran("rec 9;at 3;cut 1;");
        y.heard(0, 3, 0, 0);
        e.due("joined stays", 1, y.at(0, 3, 9));
        e.due("what happened stays", 0, y.at(0, 3, 8));
    }

    private void heardRefused() {
        e.of(13, "false if one can't be (AIR 0 .. 9 or NONE, BEATS 0 .. 63 or NONE, no second BEAT without a first, else "
                + "0 .. 99; a blank PLACE).");
        HumTape x = ran("rec 2;");
        int[] most = {99, 9, 63, 63, 99, 99, 99};
        int[] place = {1, 0, 10, -1, 2, 10, 0, 5, 0, 0};
        for (int what = 0; what < 7; what++) {
            int[] wrong = {most[what] + 1, -2, MIN, MAX};
            for (int v : wrong) {
                e.due("heard(0, 0, " + what + ", " + v + ")", false, x.heard(0, 0, what, v));
            }
            boolean may = what >= 1 && what <= 3;
            HumTape y = ran("rec 2;");
            e.due("NONE of " + what, may, y.heard(0, 0, what, -1));
            e.due("a blank place", false, x.heard(0, 2, what, 0));
            e.due("a blank place", false, x.heard(1, 0, what, -1));
            e.due("tape 2", false, x.heard(2, 0, what, 0));
            e.due("tape -1", false, x.heard(-1, 0, what, 0));
            e.due("place 300", false, x.heard(0, 300, what, 0));
            e.due("place -1", false, x.heard(0, -1, what, 0));
            e.due("MIN, MAX", false, x.heard(MIN, MAX, what, 0));
        }
        int[] wrongWhats = {-1, 7, 8, 9, 10, MIN, MAX};
        for (int what : wrongWhats) {
            e.due("what " + what, false, x.heard(0, 0, what, 0));
        }
        e.place(x, 0, 0, place);
        e.blank(x, 0, 2);
        e.due("a second", true, x.heard(0, 0, 3, 0));
        e.due("no first while there is a second", false, x.heard(0, 0, 2, -1));
        e.due("first then", 10, x.at(0, 0, 2));
        e.due("no second", true, x.heard(0, 0, 3, -1));
        e.due("no first", true, x.heard(0, 0, 2, -1));
        e.due("a second without a first", false, x.heard(0, 0, 3, 0));
        e.due("second then", -1, x.at(0, 0, 3));
        e.due("none without a first", true, x.heard(0, 0, 3, -1));
        e.due("a first of 0", true, x.heard(0, 0, 2, 0));
        e.due("a second with it", true, x.heard(0, 0, 3, 63));
    }
}
