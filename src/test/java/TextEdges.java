/** Boundary cases of promises 6 to 10: feed, end, text, fault, machine. */
final class TextEdges {
    private static final int MAX = Edge.MAX;
    private static final int MIN = Edge.MIN;
    private static final int BLANKS = 0x20202020;
    private final Edge e;

    private TextEdges(Edge e) {
        this.e = e;
    }

    static void all(Edge e) {
        TextEdges edges = new TextEdges(e);
        edges.feed();
        edges.feedFull();
        edges.end();
        edges.endRefused();
        edges.text();
        edges.noSuchText();
        edges.textWithFault();
        edges.fault();
        edges.faultOfNone();
        edges.machine();
        edges.machineOfNone();
    }

    private static int feedBlanks(HumTape x) {
        return x.feed(BLANKS, BLANKS, BLANKS, BLANKS, BLANKS);
    }

    private void feed() {
        e.of(6, "Twenty bytes come behind the TAPE of bytes, of each number the highest first: how many it has.");
        HumTape x = new HumTape();
        e.due("the first twenty", 20, feedBlanks(x));
        // "wipe " over two numbers, "11;lift 12;", and a byte of 255 as the last one.
        e.due("twenty more", 40, x.feed(0x77697065, 0x2031313B, 0x6C696674, 0x2031323B, 0x202020FF));
        e.due("the last byte is where it is due", -1, x.text(0, 0));
        e.due("fault(0)", 1, x.fault(0));
        e.due("fault(1)", 39, x.fault(1));
        feedBlanks(x);
        x.feed(0x77697065, 0x2031313B, 0x6C696674, 0x2031323B, BLANKS);
        e.due("numbers in their order", 2, x.text(0, 0));
        e.due("wipe", 11, x.machine(0, 2));
        e.due("lift", 12, x.machine(0, 3));
        x.feed(MIN, MAX, -1, 0, 1);
        e.due("any number is four bytes", true, x.end(20));
    }

    private void feedFull() {
        e.of(6, "NONE, and nothing comes, if there would be more than 600.");
        HumTape x = new HumTape();
        for (int i = 1; i <= 30; i++) {
            e.due("feed " + i, 20 * i, feedBlanks(x));
        }
        e.due("to 620", -1, x.feed(0, 0, 0, 0, 0));
        e.due("nothing came", false, x.end(601));
        e.due("they are blanks still", 0, x.text(1, 0));
        for (int i = 0; i < 30; i++) {
            feedBlanks(x);
        }
        x.end(581);
        e.due("to 601", -1, x.feed(0, 0, 0, 0, 0));
        e.due("nothing came", false, x.end(582));
        x.end(580);
        e.due("to 600", 600, feedBlanks(x));
        e.due("they are blanks", 0, x.text(1, 0));
    }

    private void end() {
        e.of(7, "It has its first n bytes alone: true;");
        HumTape x = new HumTape();
        e.due("end(0) of none", true, x.end(0));
        Check.type(x, "hum 1;hiss 9;");
        e.due("as many as it has", true, x.end(13));
        e.due("fewer", true, x.end(6));
        e.due("feed comes behind these", 26, feedBlanks(x));
        e.due("the first six and blanks", 1, x.text(0, 0));
        e.due("hum", 1, x.machine(0, 6));
        e.due("hiss", 0, x.machine(0, 5));
        Check.type(x, "oops");
        e.due("end(0)", true, x.end(0));
        e.due("none are left", 0, x.text(0, 1));
        Check.type(x, "hum 1;5");
        x.end(5);
        e.due("the ; is gone", -1, x.text(0, 0));
        e.due("so the end is the fault", 5, x.fault(1));
    }

    private void endRefused() {
        e.of(7, "false, changing nothing, if it has not so many, or n is below 0.");
        HumTape x = new HumTape();
        e.due("end(1) of none", false, x.end(1));
        Check.type(x, "hum 1;");
        int[] wrong = {7, 20, 600, MAX, -1, MIN};
        for (int n : wrong) {
            e.due("end(" + n + ") of six", false, x.end(n));
        }
        e.due("nothing has changed", 26, feedBlanks(x));
        e.due("nothing has changed", 1, x.text(0, 0));
    }

    private void text() {
        e.of(8, "The TAPE of bytes, empty then, is a MACHINE (sort 0, k 0 .. 5), a STORY (1, 0 .. 5) or a READER "
                + "(2, 0 .. 3): how many lines.");
        HumTape x = new HumTape();
        for (int k = 0; k < 6; k++) {
            e.due("text(0, " + k + ") of none", 0, x.text(0, k));
            e.due("text(0, " + k + ")", 2, Check.machine(x, k, "hiss " + k + ";width 9;"));
            e.due("empty then", false, x.end(1));
            e.due("text(1, " + k + ")", 1, Check.story(x, k, "rec " + (k + 1) + ";"));
            e.due("empty then", 20, feedBlanks(x));
            x.end(0);
        }
        for (int k = 0; k < 4; k++) {
            e.due("text(2, " + k + ")", 1, Check.reader(x, k, "wiped when place=" + k + ";"));
            e.due("empty then", false, x.end(1));
        }
        for (int k = 0; k < 6; k++) {
            e.due("each machine has its own", k, x.machine(k, 5));
            e.due("each story has its own", k + 1, x.run(k));
        }
        for (int k = 0; k < 4; k++) {
            e.due("each reader has its own", 1, x.says(k, 0, k, false));
            e.due("each reader has its own", 0, x.says(k, 0, 4, false));
        }
        e.due("an empty text is one too", 0, x.text(0, 5));
        e.due("it is in the old one's stead", 0, x.machine(5, 5));
    }

    private void noSuchText() {
        e.of(8, "NONE: no such one (fault() tells 0),");
        int[][] wrong = {{-1, 0}, {3, 0}, {0, -1}, {0, 6}, {1, -1}, {1, 6}, {2, -1}, {2, 4}, {2, 5}, {MIN, 0},
            {MAX, 0}, {0, MIN}, {1, MAX}, {2, MIN}};
        for (int[] pair : wrong) {
            HumTape x = new HumTape();
            Check.machine(x, 0, "hum 2;");
            Check.type(x, "hum 1;");
            e.due("text(" + pair[0] + ", " + pair[1] + ")", -1, x.text(pair[0], pair[1]));
            e.due("fault(0)", 0, x.fault(0));
            e.due("fault(1)", -1, x.fault(1));
            for (int k = 0; k < 6; k++) {
                e.due("no machine has it", 0, x.machine(k, 6));
            }
        }
    }

    private void textWithFault() {
        e.of(8, "or a FAULT (it stays as it was).");
        HumTape x = new HumTape();
        Check.machine(x, 5, "hiss 7;");
        Check.story(x, 5, "rec 7;");
        Check.reader(x, 3, "copied when 1=1;");
        e.due("a machine's fault", -1, Check.machine(x, 5, "hiss 8;width 3;oops"));
        e.due("the tape is empty then", false, x.end(1));
        e.due("a story's fault", -1, Check.story(x, 5, "rec 8;oops"));
        e.due("a reader's fault", -1, Check.reader(x, 3, "whole when 1=1;oops"));
        e.due("hiss", 7, x.machine(5, 5));
        e.due("width", 5, x.machine(5, 4));
        e.due("run", 7, x.run(5));
        e.due("says", 3, x.says(3, 0, 0, false));
    }

    private void fault() {
        e.of(9, "Of the latest text(): what 0 the FAULT (0 without one), 1 its place (NONE).");
        HumTape x = new HumTape();
        e.due("fault(0) ahead of any text", 0, x.fault(0));
        e.due("fault(1) ahead of any text", -1, x.fault(1));
        String[] texts = {"oops", "hum 2;", "hum 1;hum 1;", "hum 1;", "hum"};
        int[] kinds = {1, 2, 3, 0, 1};
        int[] places = {0, 4, 6, -1, 3};
        for (int i = 0; i < texts.length; i++) {
            Check.machine(x, 0, texts[i]);
            e.due("fault(0) of " + texts[i], kinds[i], x.fault(0));
            e.due("fault(1) of " + texts[i], places[i], x.fault(1));
        }
        feedBlanks(x);
        x.run(0);
        e.due("no other call changes it", 1, x.fault(0));
        e.due("no other call changes it", 3, x.fault(1));
    }

    private void faultOfNone() {
        e.of(9, "NONE for another what.");
        HumTape x = new HumTape();
        Check.machine(x, 0, "  oops");
        int[] wrong = {-1, 2, 3, MIN, MAX};
        for (int what : wrong) {
            e.due("fault(" + what + ")", -1, x.fault(what));
        }
    }

    private void machine() {
        e.of(10, "Of a MACHINE what 0 .. 3 MARKS start, stop, wipe, lift, 4 width, 5 hiss, 6 hum, 7 speed.");
        HumTape x = new HumTape();
        Check.machine(x, 0, "speed 150;hum 1;hiss 9;width 8;lift 99;wipe 98;stop 97;start 96;");
        Check.machine(x, 5, "start 1;stop 2;wipe 3;lift 4;width 1;hiss 0;hum 0;speed 50;");
        int[] first = {96, 97, 98, 99, 8, 9, 1, 150};
        int[] last = {1, 2, 3, 4, 1, 0, 0, 50};
        for (int what = 0; what < 8; what++) {
            e.due("machine(0, " + what + ")", first[what], x.machine(0, what));
            e.due("machine(5, " + what + ")", last[what], x.machine(5, what));
        }
    }

    private void machineOfNone() {
        e.of(10, "NONE if there is none such, or another what.");
        HumTape x = new HumTape();
        int[] wrongMachines = {-1, 6, MIN, MAX};
        int[] wrongWhats = {-1, 8, 9, MIN, MAX};
        for (int k : wrongMachines) {
            e.due("machine(" + k + ", 0)", -1, x.machine(k, 0));
            e.due("machine(" + k + ", 7)", -1, x.machine(k, 7));
        }
        for (int what : wrongWhats) {
            e.due("machine(0, " + what + ")", -1, x.machine(0, what));
            e.due("machine(5, " + what + ")", -1, x.machine(5, what));
        }
    }
}
