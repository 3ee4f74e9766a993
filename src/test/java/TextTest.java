/** Promises 6 to 10: feed, end, text, fault, machine. */
public final class TextTest {
    private static final Check CHECK = new Check("TextTest");
    private static final int MACHINE = 0;
    private static final int STORY = 1;
    private static final int READER = 2;

    public static void main(String[] args) {
        feed();
        end();
        endWithinTokens();
        manyTokens();
        text();
        noSuchText();
        fault();
        tokens();
        machineLines();
        machineFaults();
        storyFaults();
        manyActs();
        readerFaults();
        manyLines();
        openOnes();
        machine();
        CHECK.finish();
    }

    private static void feed() {
        HumTape x = new HumTape();
        for (int i = 1; i <= 30; i++) {
            CHECK.due("feed", 20 * i, x.feed(0x20202020, 0x20202020, 0x20202020, 0x20202020, 0x20202020));
        }
        CHECK.due("feed over 600", -1, x.feed(0, 0, 0, 0, 0));
        CHECK.due("nothing came: end(601)", false, x.end(601));
        CHECK.due("600 blanks are a story", 0, x.text(STORY, 0));
        x.feed(0x20202020, 0x20202020, 0x20202020, 0x20202020, 0x20202020);
        CHECK.due("highest bytes first, numbers in order", 20,
                x.feed(0x20686973, 0x73203720, 0x3B0A6875, 0x6D313B20, 0x20202020) - 20);
        CHECK.due("text", 2, x.text(MACHINE, 3));
        CHECK.due("hiss", 7, x.machine(3, 5));
        CHECK.due("hum", 1, x.machine(3, 6));
        for (int i = 0; i < 29; i++) {
            x.feed(0, 0, 0, 0, 0);
        }
        x.end(580);
        CHECK.due("feed to 600", 600, x.feed(0, 0, 0, 0, 0));
        x.end(581);
        CHECK.due("feed to 601", -1, x.feed(0, 0, 0, 0, 0));
        CHECK.due("nothing came", false, x.end(582));
    }

    private static void end() {
        HumTape x = new HumTape();
        CHECK.due("end(1) of none", false, x.end(1));
        CHECK.due("end(0) of none", true, x.end(0));
        Check.type(x, "hiss 3;hiss");
        CHECK.due("end(12)", false, x.end(12));
        CHECK.due("end(-1)", false, x.end(-1));
        CHECK.due("end(MIN)", false, x.end(Integer.MIN_VALUE));
        CHECK.due("end(MAX)", false, x.end(Integer.MAX_VALUE));
        CHECK.due("end(11)", true, x.end(11));
        CHECK.due("end(7)", true, x.end(7));
        CHECK.due("end(8)", false, x.end(8));
        CHECK.due("text", 1, x.text(MACHINE, 0));
        CHECK.due("empty then", false, x.end(1));
    }

    private static void endWithinTokens() {
        HumTape x = new HumTape();
        Check.type(x, "hiss 1234;");
        x.end(6);
        CHECK.due("the text ends behind the 1", -1, x.text(MACHINE, 0));
        CHECK.due("so there is no ;", 6, x.fault(1));
        Check.type(x, "hiss 123456;");
        x.end(9);
        CHECK.due("1234 can't be", -1, x.text(MACHINE, 0));
        CHECK.due("1234 can't be", 2, x.fault(0));
        Check.type(x, "hissing");
        x.end(4);
        CHECK.due("hiss is a keyword", -1, x.text(MACHINE, 0));
        CHECK.due("and what is wrong is the end", 4, x.fault(1));
    }

    private static void manyTokens() {
        for (int sort = MACHINE; sort <= READER; sort++) {
            dueFault(sort, ";".repeat(600), 1, 0);
            dueFault(sort, "1;".repeat(300), 1, 0);
            dueFault(sort, " ".repeat(599) + ";", 1, 599);
            dueFault(sort, "a".repeat(600), 1, 0);
            dueFault(sort, "7".repeat(600), 1, 0);
        }
        dueFault(READER, "whole when " + "1+".repeat(294) + "1", 1, 600);
        dueFault(READER, "whole when 1=1" + "+".repeat(586), 1, 15);
    }

    private static void text() {
        HumTape x = new HumTape();
        CHECK.due("an empty machine", 0, x.text(MACHINE, 5));
        CHECK.due("an empty story", 0, x.text(STORY, 5));
        CHECK.due("an empty reader", 0, x.text(READER, 3));
        CHECK.due("a machine", 2, Check.machine(x, 1, "width 2; hiss 9;"));
        CHECK.due("a fault", -1, Check.machine(x, 1, "width 3;oops"));
        CHECK.due("the tape of bytes is empty then", false, x.end(1));
        CHECK.due("it stays as it was", 2, x.machine(1, 4));
        CHECK.due("another text", 1, Check.machine(x, 1, "hum 1;"));
        CHECK.due("width without", 5, x.machine(1, 4));
        CHECK.due("hiss without", 0, x.machine(1, 5));
        CHECK.due("a story", 1, Check.story(x, 2, "rec 5;"));
        CHECK.due("run", 5, x.run(2));
        CHECK.due("a fault", -1, Check.story(x, 2, "rec 7;rec"));
        CHECK.due("it stays as it was", 5, x.run(2));
        CHECK.due("a shorter story", 0, Check.story(x, 2, ""));
        CHECK.due("run", 0, x.run(2));
        CHECK.due("a reader", 1, Check.reader(x, 0, "joined when 1=1;"));
        CHECK.due("says", 2, x.says(0, 0, 0, false));
        CHECK.due("a fault", -1, Check.reader(x, 0, "copied when 1=1;1"));
        CHECK.due("it stays as it was", 2, x.says(0, 0, 0, false));
        CHECK.due("an empty one", 0, Check.reader(x, 0, " \n "));
        CHECK.due("says", 0, x.says(0, 0, 0, false));
    }

    private static void noSuchText() {
        int[][] wrong = {{-1, 0}, {3, 0}, {0, -1}, {0, 6}, {1, -1}, {1, 6}, {2, -1}, {2, 4},
            {Integer.MIN_VALUE, Integer.MIN_VALUE}, {Integer.MAX_VALUE, Integer.MAX_VALUE}};
        for (int[] pair : wrong) {
            HumTape x = new HumTape();
            Check.machine(x, 0, "oops");
            Check.type(x, "oops");
            CHECK.due("text of none such", -1, x.text(pair[0], pair[1]));
            CHECK.due("fault(0)", 0, x.fault(0));
            CHECK.due("fault(1)", -1, x.fault(1));
            CHECK.due("the tape of bytes is empty then", false, x.end(1));
        }
    }

    private static void fault() {
        HumTape x = new HumTape();
        Check.machine(x, 0, "hiss 1; hiss 2;");
        CHECK.due("fault(0)", 3, x.fault(0));
        CHECK.due("fault(1)", 8, x.fault(1));
        CHECK.due("fault(2)", -1, x.fault(2));
        CHECK.due("fault(-1)", -1, x.fault(-1));
        CHECK.due("fault(MAX)", -1, x.fault(Integer.MAX_VALUE));
        CHECK.due("fault(0) again", 3, x.fault(0));
        Check.machine(x, 0, "hiss 1;");
        CHECK.due("fault(0) of the latest", 0, x.fault(0));
        CHECK.due("fault(1) of the latest", -1, x.fault(1));
    }

    /** Asks what fault there is, and where; 0 and -1 for none. */
    private static void dueFault(int sort, String text, int kind, int place) {
        HumTape x = new HumTape();
        int lines = Check.tell(x, sort, 0, text);
        CHECK.due("whether there is a fault in " + text, kind != 0, lines < 0);
        CHECK.due("fault(0) of " + text, kind, x.fault(0));
        CHECK.due("fault(1) of " + text, place, x.fault(1));
    }

    private static void tokens() {
        dueFault(MACHINE, "hiss1;hum0;", 0, -1);
        dueFault(MACHINE, "hiss\n\n 0001 \n;", 0, -1);
        dueFault(MACHINE, "hiss 00001;", 1, 5);
        dueFault(MACHINE, "hiss 99999999999999999999;", 1, 5);
        dueFault(MACHINE, "hiss 4294967297;", 1, 5);
        dueFault(MACHINE, "hiss 0 1;", 1, 7);
        dueFault(MACHINE, "hiss\t1;", 1, 4);
        dueFault(MACHINE, "hiss\r1;", 1, 4);
        dueFault(MACHINE, "his s1;", 1, 0);
        dueFault(MACHINE, "Hiss 1;", 1, 0);
        dueFault(MACHINE, "hissX 1;", 1, 0);
        dueFault(MACHINE, "hisshum 1;", 1, 0);
        dueFault(MACHINE, "hiss -1;", 1, 5);
        dueFault(MACHINE, "hiss " + (char) 233 + ";", 1, 5);
        dueFault(MACHINE, "hiss " + (char) 0 + "1;", 1, 5);
        dueFault(MACHINE, "hiss 1,", 1, 6);
        dueFault(MACHINE, ";", 1, 0);
        dueFault(MACHINE, "hiss 1;;", 1, 7);
        dueFault(MACHINE, "hiss 1", 1, 6);
        dueFault(MACHINE, "hiss 1 \n ", 1, 9);
        dueFault(MACHINE, " hiss", 1, 5);
        dueFault(STORY, "at 1.", 1, 4);
        dueFault(STORY, "at (1);", 1, 3);
        dueFault(STORY, "hiss 1;", 1, 0);
    }

    private static void machineLines() {
        dueFault(MACHINE, "start 1;stop 1;wipe 1;lift 1;width 1;hiss 0;hum 0;speed 50;", 0, -1);
        dueFault(MACHINE, "speed 150;hum 1;hiss 9;width 9;lift 99;wipe 99;stop 99;start 99;", 0, -1);
        HumTape x = new HumTape();
        CHECK.due("eight lines", 8,
                Check.machine(x, 0, "start 1;stop 2;wipe 3;lift 4;width 5;hiss 6;hum 1;speed 88;"));
    }

    private static void machineFaults() {
        String[] words = {"start", "stop", "wipe", "lift", "width", "hiss", "hum", "speed"};
        int[] least = {1, 1, 1, 1, 1, 0, 0, 50};
        int[] most = {99, 99, 99, 99, 9, 9, 1, 150};
        for (int i = 0; i < words.length; i++) {
            int place = words[i].length() + 1;
            dueFault(MACHINE, words[i] + " " + least[i] + ";", 0, -1);
            dueFault(MACHINE, words[i] + " " + most[i] + ";", 0, -1);
            dueFault(MACHINE, words[i] + " " + (most[i] + 1) + ";", 2, place);
            dueFault(MACHINE, words[i] + " 9999", 2, place);
            if (least[i] > 0) {
                dueFault(MACHINE, words[i] + " " + (least[i] - 1) + ";", 2, place);
            }
            dueFault(MACHINE, words[i] + ";", 1, words[i].length());
            dueFault(MACHINE, "\n" + words[i] + " " + least[i] + ";" + words[i], 3, place + ("" + least[i]).length() + 2);
        }
        dueFault(MACHINE, "hiss 10 oops", 2, 5);
        dueFault(MACHINE, "hum 1;hiss 1;hum oops", 3, 13);
    }

    private static void storyFaults() {
        String[] words = {"machine", "tape", "at", "room", "second", "talk", "rec", "erase", "cut"};
        int[] least = {0, 0, 0, 0, 0, 1, 1, 1, 1};
        int[] most = {5, 1, 299, 9, 1999, 99, 300, 300, 300};
        for (int i = 0; i < words.length; i++) {
            int place = words[i].length() + 1;
            dueFault(STORY, words[i] + " " + least[i] + ";" + words[i] + " " + most[i] + ";", 0, -1);
            dueFault(STORY, words[i] + " " + (most[i] + 1) + ";", 2, place);
            if (least[i] > 0) {
                dueFault(STORY, words[i] + " " + (least[i] - 1) + ";", 2, place);
            }
            dueFault(STORY, words[i] + " 1 1;", 1, place + 2);
        }
        dueFault(STORY, "copy 0 1;copy 299 300;", 0, -1);
        dueFault(STORY, "copy 300 1;", 2, 5);
        dueFault(STORY, "copy 0 0;", 2, 7);
        dueFault(STORY, "copy 0 301;", 2, 7);
        dueFault(STORY, "copy 300 301;", 2, 5);
        dueFault(STORY, "copy 0;", 1, 6);
        dueFault(STORY, "copy 0 1 1;", 1, 9);
        dueFault(STORY, "copy", 1, 4);
    }

    private static void manyActs() {
        HumTape x = new HumTape();
        CHECK.due("40 acts", 40, Check.story(x, 0, "rec 1;".repeat(40)));
        CHECK.due("run", 40, x.run(0));
        dueFault(STORY, "rec 1;".repeat(41), 3, 240);
        dueFault(STORY, "at 1;".repeat(40) + " at", 3, 201);
        dueFault(STORY, "at 1;".repeat(40) + " oops", 1, 201);
        dueFault(STORY, "at 1;".repeat(40) + " ;", 1, 201);
        dueFault(STORY, "at 1;".repeat(40) + " ", 0, -1);
    }

    private static void readerFaults() {
        dueFault(READER, "wiped when mark=1;joined when air<2;copied when jump>3;whole when hiss=4;", 0, -1);
        dueFault(READER, "whole when beats+left-sound*place/9999<knew*2+0;", 0, -1);
        dueFault(READER, "whole when(1=1)or not 2<1and(3>1);", 0, -1);
        dueFault(READER, "when 1=1;", 1, 0);
        dueFault(READER, "whole 1=1;", 1, 6);
        dueFault(READER, "whole when;", 1, 10);
        dueFault(READER, "whole when", 1, 10);
        dueFault(READER, "whole when 1;", 1, 12);
        dueFault(READER, "whole when 1=;", 1, 13);
        dueFault(READER, "whole when 1=1", 1, 14);
        dueFault(READER, "whole when 1=1=1;", 1, 14);
        dueFault(READER, "whole when 1<=1;", 1, 13);
        dueFault(READER, "whole when 1 1;", 1, 13);
        dueFault(READER, "whole when -1<1;", 1, 11);
        dueFault(READER, "whole when 1+-1<1;", 1, 13);
        dueFault(READER, "whole when (1+1)<1;", 1, 15);
        dueFault(READER, "whole when 1<(1);", 1, 13);
        dueFault(READER, "whole when 1+not 1<1;", 1, 13);
        dueFault(READER, "whole when 1<1);", 1, 14);
        dueFault(READER, "whole when (1<1;", 1, 15);
        dueFault(READER, "whole when (1<1 whole;", 1, 16);
        dueFault(READER, "whole when ((1<1);", 1, 17);
        dueFault(READER, "whole when (1<1)+1;", 1, 16);
        dueFault(READER, "whole when (1<1)=1;", 1, 16);
        dueFault(READER, "whole when (1<1) not 1<1;", 1, 17);
        dueFault(READER, "whole when ();", 1, 12);
        dueFault(READER, "whole when 1<1 and or 1<1;", 1, 19);
        dueFault(READER, "whole when 1 and 1<1;", 1, 13);
        dueFault(READER, "whole when 1<1 and;", 1, 18);
        dueFault(READER, "whole when not;", 1, 14);
        dueFault(READER, "whole when whole=1;", 1, 11);
        dueFault(READER, "whole when when=1;", 1, 11);
        dueFault(READER, "whole when start=1;", 1, 11);
        dueFault(READER, "whole when mark/0=1;", 2, 16);
        dueFault(READER, "whole when mark/0000=1;", 2, 16);
        dueFault(READER, "whole when mark/00000=1;", 1, 16);
        dueFault(READER, "whole when 1=mark/0", 2, 18);
        dueFault(READER, "whole when mark/mark=1;", 1, 16);
        dueFault(READER, "whole when mark/(1)=1;", 1, 16);
        dueFault(READER, "whole when mark/1*2/3=1;", 0, -1);
        dueFault(READER, "whole when mark*0=1;", 0, -1);
        dueFault(READER, "whole when 10000=1;", 1, 11);
        dueFault(READER, "whole when 1=1;rec 1;", 1, 15);
        dueFault(READER, "whole when 1=1;knew", 1, 15);
    }

    private static void manyLines() {
        HumTape x = new HumTape();
        CHECK.due("12 lines", 12, Check.reader(x, 0, "whole when 1=2;".repeat(11) + "joined when 1=1;"));
        CHECK.due("the twelfth counts", 2, x.says(0, 0, 0, false));
        dueFault(READER, "whole when 1=1;".repeat(13), 3, 180);
        dueFault(READER, "whole when 1=1;".repeat(12) + "\nwiped oops", 3, 181);
        dueFault(READER, "whole when 1=1;".repeat(12) + " when", 1, 181);
        CHECK.due("600 bytes", 1, Check.reader(x, 0, "whole when  1" + "+1".repeat(291) + "=292;"));
        CHECK.due("all of them count", 4, x.says(0, 0, 0, false));
    }

    private static void openOnes() {
        dueFault(READER, "whole when " + "(".repeat(8) + "1=1" + ")".repeat(8) + ";", 0, -1);
        dueFault(READER, "whole when " + "(".repeat(9) + "1=1" + ")".repeat(9) + ";", 3, 19);
        dueFault(READER, "whole when " + "not ".repeat(8) + "1=1;", 0, -1);
        dueFault(READER, "whole when " + "not ".repeat(9) + "1=1;", 3, 43);
        dueFault(READER, "whole when " + "not(".repeat(4) + "1=1" + ")".repeat(4) + ";", 0, -1);
        dueFault(READER, "whole when " + "not(".repeat(4) + "not 1=1" + ")".repeat(4) + ";", 3, 27);
        dueFault(READER, "whole when " + "(not ".repeat(4) + "(1=1", 3, 31);
        String eightNots = "not ".repeat(8) + "1=1";
        dueFault(READER, "whole when " + eightNots + " and " + eightNots + " or " + eightNots + ";", 0, -1);
        dueFault(READER, "whole when (" + "not ".repeat(7) + "1=1 or " + "not ".repeat(7) + "1=1) and "
                + eightNots + ";", 0, -1);
        dueFault(READER, "whole when (" + "not ".repeat(7) + "1=1 or " + "not ".repeat(8) + "1=1);", 3, 75);
        dueFault(READER, "whole when (((((((1=1 and (1=1 and (1=1", 3, 35);
        dueFault(READER, "whole when 1=1 and 1+(", 1, 21);
        dueFault(READER, "whole when " + "(".repeat(8) + "1+(", 1, 21);
        dueFault(READER, "whole when " + "(".repeat(8) + "1=1)and(1=1", 1, 30);
        dueFault(READER, "whole when " + "(".repeat(8) + "1=1)and((1=1", 3, 27);
    }

    private static void machine() {
        HumTape x = new HumTape();
        Check.machine(x, 4, "speed 60;hum 1;hiss 7;width 8;lift 14;wipe 13;stop 12;start 11;");
        int[] due = {11, 12, 13, 14, 8, 7, 1, 60};
        for (int what = 0; what < 8; what++) {
            CHECK.due("machine(4, what)", due[what], x.machine(4, what));
        }
        CHECK.due("another one", 0, x.machine(3, 0));
        CHECK.due("machine(4, 8)", -1, x.machine(4, 8));
        CHECK.due("machine(4, -1)", -1, x.machine(4, -1));
        CHECK.due("machine(6, 0)", -1, x.machine(6, 0));
        CHECK.due("machine(-1, 0)", -1, x.machine(-1, 0));
        CHECK.due("machine(MIN, MAX)", -1, x.machine(Integer.MIN_VALUE, Integer.MAX_VALUE));
    }
}
