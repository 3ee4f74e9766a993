/** Boundary cases of the Terms' machines, stories and readers as texts, their tokens and faults. */
final class GrammarEdges {
    private static final int MACHINE = 0;
    private static final int STORY = 1;
    private static final int READER = 2;
    private static final String[] MACHINE_WORDS = {"start", "stop", "wipe", "lift", "width", "hiss", "hum", "speed"};
    private static final String[] ACT_WORDS = {"machine", "tape", "at", "room", "second", "talk", "rec", "erase", "cut"};
    private final Edge e;

    private GrammarEdges(Edge e) {
        this.e = e;
    }

    static void all(Edge e) {
        GrammarEdges edges = new GrammarEdges(e);
        edges.machines();
        edges.machineNumbers();
        edges.stories();
        edges.readers();
        edges.conditions();
        edges.clauses();
        edges.sums();
        edges.products();
        edges.operands();
        edges.words();
        edges.numbers();
        edges.signs();
        edges.blanks();
        edges.wraps();
        edges.firstFault();
        edges.misplaced();
        edges.cannotBe();
        edges.partByNone();
        edges.wordTwice();
        edges.manyActs();
        edges.manyLines();
        edges.manyOpen();
    }

    private void machines() {
        e.ofTerms("MACHINES 0 .. 5 are TEXTS (empty at first) = {(start N | stop N | wipe N | lift N | width N | "
                + "hiss N | hum N | speed N) ;}, each at most once.");
        HumTape x = new HumTape();
        e.due("an empty text", 0, Check.machine(x, 0, ""));
        e.due("all eight, as machine 5", 8,
                Check.machine(x, 5, "speed 50;hum 1;hiss 1;width 1;lift 1;wipe 1;stop 1;start 1;"));
        e.due("machine 6", -1, Check.machine(x, 6, ""));
        for (String word : MACHINE_WORDS) {
            String line = word + (word.equals("speed") ? " 50;" : " 1;");
            e.fault(MACHINE, line, 0, -1);
            e.fault(MACHINE, line + line, 3, line.length());
            e.fault(MACHINE, word + " " + line, 1, word.length() + 1);
        }
        e.fault(MACHINE, "rec 1;", 1, 0);
    }

    private void machineNumbers() {
        e.ofTerms("(start, stop, wipe, lift: MARKS 1 .. 99; width 1 .. 9, 5 without; hiss 0 .. 9; hum 0, 1; "
                + "speed 50 .. 150, 100 without; the others 0 without.)");
        int[] least = {1, 1, 1, 1, 1, 0, 0, 50};
        int[] most = {99, 99, 99, 99, 9, 9, 1, 150};
        int[] without = {0, 0, 0, 0, 5, 0, 0, 100};
        for (int i = 0; i < 8; i++) {
            String word = MACHINE_WORDS[i] + " ";
            HumTape x = new HumTape();
            e.due(word + "without", without[i], x.machine(0, i));
            e.due(word + least[i], 1, Check.machine(x, 0, word + least[i] + ";"));
            e.due(word + "told", least[i], x.machine(0, i));
            e.due(word + most[i], 1, Check.machine(x, 0, word + most[i] + ";"));
            e.due(word + "told", most[i], x.machine(0, i));
            e.fault(MACHINE, word + (most[i] + 1) + ";", 2, word.length());
            e.fault(MACHINE, word + "9999;", 2, word.length());
            if (least[i] > 0) {
                e.fault(MACHINE, word + (least[i] - 1) + ";", 2, word.length());
                e.fault(MACHINE, word + "0;", 2, word.length());
            }
            e.due("a text without it", 0, Check.machine(x, 0, ""));
            e.due(word + "without again", without[i], x.machine(0, i));
        }
    }

    private void stories() {
        e.ofTerms("STORIES 0 .. 5 are TEXTS (empty at first) = {(machine N | tape N | at N | room N | second N | "
                + "talk N | rec N | erase N | copy N N | cut N) ;}.");
        HumTape x = new HumTape();
        for (int k = 0; k < 6; k++) {
            e.due("empty at first: run(" + k + ")", 0, x.run(k));
        }
        e.due("an empty text", 0, Check.story(x, 0, ""));
        e.due("all ten, as story 5", 10, Check.story(x, 5,
                "machine 1;tape 1;at 1;room 1;second 1;talk 1;rec 1;erase 1;copy 1 1;cut 1;"));
        e.due("story 6", -1, Check.story(x, 6, ""));
        for (String word : ACT_WORDS) {
            e.fault(STORY, word + " 1;" + word + " 1;", 0, -1);
            e.fault(STORY, word + " 1 1;", 1, word.length() + 3);
            e.fault(STORY, word + ";", 1, word.length());
        }
        e.fault(STORY, "copy 1;", 1, 6);
        e.fault(STORY, "copy 1 1 1;", 1, 9);
        e.fault(STORY, "hiss 1;", 1, 0);
    }

    private void readers() {
        e.ofTerms("READERS 0 .. 3 are TEXTS (empty at first) = {(wiped | joined | copied | whole) when B ;}.");
        HumTape x = new HumTape();
        for (int k = 0; k < 4; k++) {
            e.due("empty at first: says(" + k + ", ..)", 0, x.says(k, 0, 0, true));
        }
        e.due("an empty text", 0, Check.reader(x, 0, ""));
        e.due("four lines, as reader 3", 4,
                Check.reader(x, 3, "wiped when 1=2;joined when 1=2;copied when 1=2;whole when 1=1;"));
        e.due("its last line", 4, x.says(3, 0, 0, false));
        e.due("reader 4", -1, Check.reader(x, 4, ""));
        e.fault(READER, "when 1=1;", 1, 0);
        e.fault(READER, "whole 1=1;", 1, 6);
        e.fault(READER, "whole when;", 1, 10);
        e.fault(READER, "whole when 1=1", 1, 14);
        e.fault(READER, "over when 1=1;", 1, 0);
    }

    private void conditions() {
        e.ofTerms("B = A {or A}.  A = C {and C}.");
        e.so(true, "1=1");
        e.so(true, "1=1 or 1=1 and 1=2");
        e.so(true, "1=2 and 1=2 or 1=1");
        e.so(false, "1=2 or 1=1 and 1=2 or 1=2");
        e.so(true, "1=2 or ".repeat(80) + "1=1");
        e.so(false, "1=1 and ".repeat(70) + "1=2");
        e.fault(READER, "whole when 1=1 or;", 1, 17);
        e.fault(READER, "whole when 1=1 and;", 1, 18);
        e.fault(READER, "whole when or 1=1;", 1, 11);
        e.fault(READER, "whole when 1=1 1=1;", 1, 15);
    }

    private void clauses() {
        e.ofTerms("C = E (< | = | >) E | not C | ( B ).");
        e.so(false, "5<5");
        e.so(true, "5<6");
        e.so(true, "5=5");
        e.so(false, "5>5");
        e.so(true, "6>5");
        e.so(true, "6>5 and 5<6 and 5=5");
        e.so(false, "not 1=2 and 1=2");
        e.so(true, "not (1=2 and 1=1)");
        e.so(false, "(1=1 or 1=1) and 1=2");
        e.fault(READER, "whole when 1;", 1, 12);
        e.fault(READER, "whole when 1=1=1;", 1, 14);
        e.fault(READER, "whole when ();", 1, 12);
        e.fault(READER, "whole when (1=1;", 1, 15);
        e.fault(READER, "whole when 1=1);", 1, 14);
        e.fault(READER, "whole when (1)=1;", 1, 13);
        e.fault(READER, "whole when (1=1)+1;", 1, 16);
        e.fault(READER, "whole when (1=1)=1;", 1, 16);
        e.fault(READER, "whole when (1=1)(1=1);", 1, 16);
        e.fault(READER, "whole when (1=1)not 1=1;", 1, 16);
        e.fault(READER, "whole when not;", 1, 14);
    }

    private void sums() {
        e.ofTerms("E = T {(+ | -) T}.");
        e.so(true, "9-4-3=2");
        e.so(true, "9-4+3=8");
        e.so(true, "0-1<0");
        e.so(true, "1+1+1+1=2+2");
        e.so(false, "5<2+1");
        e.so(false, "5=2+1");
        e.so(false, "2>2+1");
        e.so(false, "5<2-1");
        e.fault(READER, "whole when -1<1;", 1, 11);
        e.fault(READER, "whole when 1+<1;", 1, 13);
        e.fault(READER, "whole when 1+-1<1;", 1, 13);
    }

    private void products() {
        e.ofTerms("T = U {* U | / NUMBER}.");
        e.so(true, "7*3/2=10");
        e.so(true, "7/2*3=9");
        e.so(true, "1+2*3=7");
        e.so(true, "9-4*2=1");
        e.so(true, "9-4/2=7");
        e.so(true, "5/1=5");
        e.so(true, "100/7/2=7");
        e.so(true, "0/9999=0");
        e.fault(READER, "whole when 4/mark=1;", 1, 13);
        e.fault(READER, "whole when 4/(2)=1;", 1, 13);
        e.fault(READER, "whole when 4*(2)=1;", 1, 13);
        e.fault(READER, "whole when *4=1;", 1, 11);
    }

    private void operands() {
        e.ofTerms("U = NUMBER | mark | air | jump | hiss | beats | left | sound | place | knew.");
        HumTape x = Check.ran(new int[] {5, 9}, "hum 1;hiss 9;start 98;stop 99;", "talk 99;room 9;rec 2;");
        x.heard(0, 1, 3, 63);
        x.heard(0, 1, 6, 97);
        e.so(x, true, "mark=99 and air=10 and jump=4 and hiss=9 and beats=2", 1, true);
        e.so(x, true, "left=97 and sound=99 and place=1 and knew=1", 1, true);
        e.so(x, true, "mark=98 and jump=0 and beats=1 and left=0 and place=0 and knew=0", 0, false);
        e.so(true, "9999=9998+1");
        e.so(true, "mark=0 and air=0 and jump=0 and hiss=0 and beats=0 and left=0 and sound=0");
        e.fault(READER, "whole when width=1;", 1, 11);
        e.fault(READER, "whole when when=1;", 1, 11);
        e.fault(READER, "whole when whole=1;", 1, 11);
    }

    private void words() {
        e.ofTerms("TOKENS: letters as many as stand together are KEYWORDS (those told for such a TEXT) or none;");
        e.fault(MACHINE, "hum1;hiss2;", 0, -1);
        e.fault(MACHINE, "hu m1;", 1, 0);
        e.fault(MACHINE, "humhiss1;", 1, 0);
        e.fault(MACHINE, "hums 1;", 1, 0);
        e.fault(MACHINE, "Hum 1;", 1, 0);
        e.fault(MACHINE, "humZ 1;", 1, 0);
        e.fault(MACHINE, "at 1;", 1, 0);
        e.fault(STORY, "hum 1;", 1, 0);
        e.fault(READER, "rec 1;", 1, 0);
        e.fault(READER, "whole whenmark=1;", 1, 6);
        e.fault(READER, "whole when notmark=1;", 1, 11);
        e.fault(READER, "whole when not mark=1or mark=2;", 0, -1);
        e.fault(MACHINE, "z".repeat(600), 1, 0);
    }

    private void numbers() {
        e.ofTerms("digits as many as stand together NUMBERS of 1 to 4 digits or none;");
        e.fault(MACHINE, "hum 1;", 0, -1);
        e.fault(MACHINE, "hum 0001;", 0, -1);
        e.fault(MACHINE, "hum 00001;", 1, 4);
        e.fault(MACHINE, "hum 4294967297;", 1, 4);
        e.fault(MACHINE, "hum 1 0;", 1, 6);
        e.fault(MACHINE, "9".repeat(600), 1, 0);
        e.fault(READER, "whole when 9999<1;", 0, -1);
        e.fault(READER, "whole when 10000<1;", 1, 11);
        e.fault(READER, "whole when 1/00000<1;", 1, 13);
    }

    private void signs() {
        e.ofTerms("; and (READERS) + - * / ( ) < = > .");
        String signs = "+-*/()<=>";
        for (int i = 0; i < signs.length(); i++) {
            e.fault(MACHINE, "hum 1" + signs.charAt(i) + ";", 1, 5);
            e.fault(STORY, "rec 1" + signs.charAt(i) + ";", 1, 5);
        }
        e.fault(READER, "whole when (1+2-3*4/5<6)and 7=8or 9>0;", 0, -1);
        e.fault(READER, "whole when 1.=1;", 1, 12);
        for (int sort = MACHINE; sort <= READER; sort++) {
            e.fault(sort, ";", 1, 0);
            e.fault(sort, "" + (char) 0, 1, 0);
            e.fault(sort, "" + (char) 255, 1, 0);
            e.fault(sort, ";".repeat(600), 1, 0);
        }
    }

    private void blanks() {
        e.ofTerms("Blanks (32, 10) between.");
        e.fault(MACHINE, " \n hum \n\n 1 \n ; \n", 0, -1);
        e.fault(MACHINE, " ".repeat(594) + "hum 1;", 0, -1);
        e.fault(MACHINE, "\n".repeat(600), 0, -1);
        for (int sign = 0; sign < 33; sign++) {
            if (sign != 32 && sign != 10) {
                e.fault(MACHINE, "hum" + (char) sign + "1;", 1, 3);
            }
        }
        e.fault(MACHINE, "hum" + (char) 160 + "1;", 1, 3);
        e.fault(READER, " whole\nwhen\n1 + 2 * 3 / 4 < 5 ; ", 0, -1);
    }

    private void wraps() {
        e.ofTerms("Ints, which wrap.");
        e.so(true, "8192*8192*32<0");
        e.so(true, "8192*8192*64=0");
        e.so(true, "8192*8192*32-1>0");
        e.so(true, "8192*8192*16+8192*8192*16=8192*8192*32");
        e.so(true, "0-8192*8192*32<0");
    }

    private void firstFault() {
        e.ofTerms("FAULTS, the first by its place, at one place the least:");
        e.fault(MACHINE, "hum 2 oops", 2, 4);
        e.fault(MACHINE, "hum 1;hum 2;", 3, 6);
        e.fault(MACHINE, "hum 1 hum 1;", 1, 6);
        e.fault(MACHINE, "hum 1;hiss oops;hum 1;", 1, 11);
        e.fault(STORY, "copy 300 301;", 2, 5);
        e.fault(STORY, "copy 300;", 2, 5);
        e.fault(STORY, "at 1;".repeat(40) + "oops", 1, 200);
        e.fault(READER, "whole when 1=1;".repeat(12) + "when", 1, 180);
        e.fault(READER, "whole when " + "(".repeat(8) + "1+(", 1, 21);
        e.fault(READER, "whole when 1/0 oops", 2, 13);
    }

    private void misplaced() {
        e.ofTerms("1 what can't stand there (the end: the text's length).");
        String[] machine = {"hum", "hum ", "hum 1", "hum 1 \n", "hum 1;hiss"};
        for (String text : machine) {
            e.fault(MACHINE, text, 1, text.length());
        }
        String[] story = {"copy", "copy 1", "copy 1 1", "rec 1;rec"};
        for (String text : story) {
            e.fault(STORY, text, 1, text.length());
        }
        String[] reader = {"whole", "whole when", "whole when 1", "whole when 1=", "whole when 1=1", "whole when (1=1",
            "whole when (1=1)", "whole when 1=1 and ", "whole when not", "whole when 1/", "whole when 1*"};
        for (String text : reader) {
            e.fault(READER, text, 1, text.length());
        }
        e.fault(MACHINE, " ".repeat(597) + "hum", 1, 600);
        e.fault(MACHINE, "1;", 1, 0);
        e.fault(MACHINE, "hum;1;", 1, 3);
        e.fault(MACHINE, "hum 1;;", 1, 6);
    }

    private void cannotBe() {
        e.ofTerms("2 (at the NUMBER) one that can't be: as told above; a machine above 5, tape above 1, at above 299, "
                + "room above 9, second above 1999, talk 0 or above 99, rec, erase, cut or the second of copy 0 or "
                + "above 300, the first of copy above 299;");
        int[] least = {0, 0, 0, 0, 0, 1, 1, 1, 1};
        int[] most = {5, 1, 299, 9, 1999, 99, 300, 300, 300};
        for (int i = 0; i < ACT_WORDS.length; i++) {
            String word = ACT_WORDS[i] + " ";
            e.fault(STORY, word + least[i] + ";", 0, -1);
            e.fault(STORY, word + most[i] + ";", 0, -1);
            e.fault(STORY, word + (most[i] + 1) + ";", 2, word.length());
            e.fault(STORY, word + "9999;", 2, word.length());
            if (least[i] == 1) {
                e.fault(STORY, word + "0;", 2, word.length());
            }
        }
        e.fault(STORY, "copy 0 1;copy 299 300;", 0, -1);
        e.fault(STORY, "copy 300 1;", 2, 5);
        e.fault(STORY, "copy 0 0;", 2, 7);
        e.fault(STORY, "copy 299 301;", 2, 9);
        e.fault(MACHINE, "hum  2;", 2, 5);
    }

    private void partByNone() {
        e.ofTerms("a part by 0.");
        e.fault(READER, "whole when mark/0=1;", 2, 16);
        e.fault(READER, "whole when mark/0000=1;", 2, 16);
        e.fault(READER, "whole when 1=mark*2/ 0;", 2, 21);
        e.fault(READER, "whole when mark/1=1;", 0, -1);
        e.fault(READER, "whole when mark*0=0;", 0, -1);
    }

    private void wordTwice() {
        e.ofTerms("3 (at its KEYWORD) a line of a MACHINE's word that is there;");
        e.fault(MACHINE, "hum 0; hum 0;", 3, 7);
        e.fault(MACHINE, "hum 0;hiss 0;hum", 3, 13);
        e.fault(MACHINE, "hum 0;hiss 0;width 1;hiss 10;", 3, 21);
        HumTape x = new HumTape();
        Check.machine(x, 0, "hum 1;");
        e.due("a word of the text ahead is not there", 1, Check.machine(x, 0, "hum 1;"));
        Check.machine(x, 0, "hiss 1;oops");
        e.due("nor one of a text with a fault", 1, Check.machine(x, 0, "hiss 1;"));
    }

    private void manyActs() {
        e.ofTerms("the 41st act;");
        e.fault(STORY, "rec 1;".repeat(40), 0, -1);
        e.fault(STORY, "rec 1;".repeat(41), 3, 240);
        e.fault(STORY, "at 1;".repeat(40) + "\n room", 3, 202);
        e.fault(STORY, "at 1;".repeat(40) + " \n", 0, -1);
        HumTape x = new HumTape();
        e.due("40 acts", 40, Check.story(x, 0, "rec 1;".repeat(40)));
        e.due("all of them are run", 40, x.run(0));
    }

    private void manyLines() {
        e.ofTerms("the 13th line of a READER;");
        HumTape x = new HumTape();
        e.due("12 lines", 12, Check.reader(x, 0, "whole when 1=2;".repeat(11) + "joined when 1=1;"));
        e.due("the twelfth is asked", 2, x.says(0, 0, 0, false));
        e.due("12 lines, none of them so", 12, Check.reader(x, 0, "whole when 1=2;".repeat(12)));
        e.due("nothing is said then", 0, x.says(0, 0, 0, false));
        e.fault(READER, "whole when 1=1;".repeat(13), 3, 180);
        e.fault(READER, "whole when 1=1;".repeat(12) + " \ncopied oops", 3, 182);
    }

    private void manyOpen() {
        e.ofTerms("(at it) the 9th ( or not that is open.");
        String open = "whole when " + "(".repeat(8);
        e.fault(READER, open + "1=1" + ")".repeat(8) + ";", 0, -1);
        e.fault(READER, open + "(1=1" + ")".repeat(9) + ";", 3, 19);
        e.fault(READER, open + "not 1=1" + ")".repeat(8) + ";", 3, 19);
        e.fault(READER, open + "1=1)and(1=1" + ")".repeat(8) + ";", 0, -1);
        e.fault(READER, open + "1=1)and((1=1", 3, 27);
        String nots = "not ".repeat(8) + "1=1";
        e.fault(READER, "whole when " + nots + ";", 0, -1);
        e.fault(READER, "whole when not " + nots + ";", 3, 43);
        e.fault(READER, "whole when " + nots + " and " + nots + " or " + nots + ";whole when " + nots + ";", 0, -1);
        e.fault(READER, "whole when " + "not ".repeat(8) + "(1=1);", 3, 43);
        e.fault(READER, "whole when (" + "not ".repeat(7) + "1=1 or " + "not ".repeat(8) + "1=1);", 3, 75);
        e.so(true, "not ".repeat(8) + "1=1");
        e.so(false, "not(".repeat(3) + "not 1=1 or 1=2" + ")".repeat(3) + " and 1=2");
    }
}
