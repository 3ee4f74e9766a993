import java.util.Random;

/** All promises: runs of calls, drawn by a kept seed, on the class and on Model, which must answer alike. */
public final class ModelTest {
    private static final int RUNS = 400;
    private static final int CALLS = 512;
    private static final int[] WILD = {-1, -2, 0, 1, 2, 3, 6, 40, 41, 63, 64, 99, 100, 255, 299, 300, 301, 9999, 10000,
        Integer.MIN_VALUE, Integer.MAX_VALUE};

    private final Random dice;
    private final HumTape real = new HumTape();
    private final Model model = new Model();
    private final Check check;
    private int reach;

    private ModelTest(Check check, int seed) {
        this.check = check;
        dice = new Random(seed);
        reach = new int[] {12, 40, 300}[seed % 3];
    }

    public static void main(String[] args) {
        Check check = new Check("ModelTest");
        int runs = args.length > 0 ? Integer.parseInt(args[0]) : RUNS;
        for (int seed = 0; seed < runs; seed++) {
            new ModelTest(check, seed).run();
        }
        check.finish();
    }

    private void run() {
        int calls = 1;
        int seconds = 1 + dice.nextInt(dice.nextBoolean() ? 60 : 500);
        due("drawn", model.drawn(seconds), real.drawn(seconds));
        for (int k = 0; k < 5; k++) {
            calls += k < 4 ? tell(0, k) : 0;
            calls += tell(1, k);
            calls += k < 2 ? tell(2, k) : 0;
        }
        while (calls < CALLS - 40) {
            calls += step();
        }
    }

    /** Every place, beside the calls that are counted: they change nothing. */
    private void compareTapes() {
        for (int tape = 0; tape < 2; tape++) {
            for (int place = 0; place < 300; place++) {
                for (int what = 0; what < 10; what++) {
                    int want = model.at(tape, place, what);
                    int got = real.at(tape, place, what);
                    if (want != got) {
                        due("at(" + tape + ", " + place + ", " + what + ")", want, got);
                    }
                }
            }
        }
    }

    /** A number of 0 .. most, or now and then a wild one. */
    private int pick(int most) {
        return dice.nextInt(25) == 0 ? WILD[dice.nextInt(WILD.length)] : dice.nextInt(most + 1);
    }

    private int place() {
        return dice.nextInt(30) == 0 ? pick(299) : pick(reach - 1);
    }

    private int[] piece() {
        int a = place();
        int b = dice.nextInt(20) == 0 ? place() : a + dice.nextInt(dice.nextBoolean() ? 6 : reach);
        return new int[] {pick(9) > 7 ? 1 : pick(1), a, dice.nextInt(20) == 0 ? b : Math.min(b, 299)};
    }

    private void due(String call, int want, int got) {
        check.due(call, want, got);
    }

    private int step() {
        int sort = dice.nextInt(30);
        if (sort < 3) {
            return tell(sort, pick(sort == 2 ? 3 : 5));
        }
        if (sort < 6) {
            int k = pick(5);
            due("run(" + k + ")", model.run(k), real.run(k));
            compareTapes();
            return 1;
        }
        if (sort < 8) {
            return land();
        }
        if (sort < 12) {
            return places();
        }
        return sort < 22 ? pieces() : rest();
    }

    private int land() {
        int a = dice.nextInt();
        int n = pick(4);
        switch (dice.nextInt(4)) {
            case 0:
                due("state", model.state(a), real.state(a));
                break;
            case 1:
                due("beats", model.beats(a, n), real.beats(a, n));
                break;
            case 2:
                n = pick(dice.nextBoolean() ? 30 : 510);
                due("drawn", model.drawn(n), real.drawn(n));
                break;
            default:
                n = pick(2000);
                due("hum", model.hum(n), real.hum(n));
        }
        return 1;
    }

    private int places() {
        int tape = pick(1);
        int place = place();
        int what = pick(9);
        if (dice.nextBoolean()) {
            due("at", model.at(tape, place, what), real.at(tape, place, what));
            return 1;
        }
        int v = pick(99);
        if (dice.nextBoolean()) {
            v = pick(11) - 1;
        }
        what = pick(6);
        check.due("heard", model.heard(tape, place, what, v), real.heard(tape, place, what, v));
        due("at", model.at(tape, place, what), real.at(tape, place, what));
        return 2;
    }

    private int pieces() {
        int[] p = piece();
        // Pieces with something on them are worth more looks.
        for (int i = 0; i < 4 && model.look(1 + (p[0] & 1)) == 0; i++) {
            p = piece();
        }
        int what = pick(3);
        int doubt = pick(dice.nextBoolean() ? 5 : 200);
        int t = pick(Math.max(0, model.look(0) - 1));
        String call = " of " + p[0] + ", " + p[1] + ", " + p[2] + ", what " + what + ", doubt " + doubt;
        due("marks" + call, model.marks(p[0], p[1], p[2], what), real.marks(p[0], p[1], p[2], what));
        due("settings" + call, model.settings(p[0], p[1], p[2]), real.settings(p[0], p[1], p[2]));
        int k = pick(5);
        due("which" + call, model.which(p[0], p[1], p[2], k, what), real.which(p[0], p[1], p[2], k, what));
        int row = pick(1);
        int speed = dice.nextBoolean() ? 100 : 48 + dice.nextInt(105);
        due("slide" + call, model.slide(p[0], p[1], p[2], row, speed, doubt, what),
                real.slide(p[0], p[1], p[2], row, speed, doubt, what));
        if (p[2] - p[1] < 40) {
            due("need" + call, model.need(p[0], p[1], p[2], doubt), real.need(p[0], p[1], p[2], doubt));
        }
        due("speeds" + call, model.speeds(p[0], p[1], p[2], t, doubt, what),
                real.speeds(p[0], p[1], p[2], t, doubt, what));
        int bound = pick(dice.nextBoolean() ? 3 : 63);
        due("joins" + call, model.joins(p[0], p[1], p[2], bound, what), real.joins(p[0], p[1], p[2], bound, what));
        due("through" + call, model.through(p[0], p[1], p[2]), real.through(p[0], p[1], p[2]));
        due("could" + call, model.could(p[0], p[1], p[2], what), real.could(p[0], p[1], p[2], what));
        return 9;
    }

    private int rest() {
        int[] p = piece();
        int k = pick(5);
        int what = pick(2);
        switch (dice.nextInt(6)) {
            case 0:
                int mark = pick(30) - 1;
                int v = pick(dice.nextBoolean() ? 8 : 300);
                check.due("pedal", model.pedal(mark, v), real.pedal(mark, v));
                return 1;
            case 1:
                due("alike", model.alike(p[0], k, what), real.alike(p[0], k, what));
                return 1;
            case 2:
                due("says", model.says(k, p[0], p[1], what == 0), real.says(k, p[0], p[1], what == 0));
                return 1;
            case 3:
                due("reader", model.reader(k, p[0], p[1], p[2], what), real.reader(k, p[0], p[1], p[2], what));
                return 1;
            case 4:
                k = pick(7);
                due("machine", model.machine(what, k), real.machine(what, k));
                return 1;
            default:
                due("look", model.look(k), real.look(k));
                return 1;
        }
    }

    private int tell(int sort, int k) {
        Texts texts = new Texts(dice, reach);
        String text = sort == 0 ? texts.machine() : sort == 1 ? texts.story() : texts.reader();
        if (dice.nextInt(4) == 0) {
            text = texts.spoilt(text);
        }
        text = text.length() > 600 ? text.substring(0, 600) : text;
        int calls = 0;
        for (int i = 0; i < text.length(); i += 20) {
            int[] five = new int[5];
            for (int j = 0; j < 20; j++) {
                int sign = i + j < text.length() ? text.charAt(i + j) : ' ';
                five[j / 4] = five[j / 4] << 8 | sign & 255;
            }
            due("feed", model.feed(five[0], five[1], five[2], five[3], five[4]),
                    real.feed(five[0], five[1], five[2], five[3], five[4]));
            calls++;
        }
        int length = dice.nextInt(30) == 0 ? pick(700) : text.length();
        check.due("end", model.end(length), real.end(length));
        due("text of " + text, model.text(sort, k), real.text(sort, k));
        due("fault(0) of " + text, model.fault(0), real.fault(0));
        due("fault(1) of " + text, model.fault(1), real.fault(1));
        return calls + 4;
    }

    /** Texts by the document's grammar, some of them spoilt. */
    private static final class Texts {
        private final Random dice;
        private final int reach;

        Texts(Random dice, int reach) {
            this.dice = dice;
            this.reach = reach;
        }

        private String gap() {
            return new String[] {" ", " ", "\n", "  ", " \n"}[dice.nextInt(5)];
        }

        private String maybeGap() {
            return dice.nextInt(6) == 0 ? gap() : "";
        }

        private int number(int least, int most) {
            int n = least + dice.nextInt(most - least + 1);
            return dice.nextInt(120) == 0 ? WILD[2 + dice.nextInt(17)] : n;
        }

        private String line(String word, int number) {
            return word + (dice.nextInt(9) == 0 ? "" : gap()) + number + maybeGap() + ";" + maybeGap();
        }

        String machine() {
            StringBuilder text = new StringBuilder();
            int marks = dice.nextBoolean() ? 99 : 6;
            String[] words = {"start", "stop", "wipe", "lift", "width", "hiss", "hum", "speed"};
            int[] least = {1, 1, 1, 1, 1, 0, 0, 50};
            int[] most = {marks, marks, marks, marks, 9, 9, 1, 150};
            for (int i = 0; i < 8; i++) {
                int word = dice.nextInt(40) == 0 ? dice.nextInt(8) : i;
                if (dice.nextInt(3) > 0 || i == 6) {
                    text.append(line(words[word], i == 6 && dice.nextInt(4) > 0 ? 1 : number(least[word], most[word])));
                }
            }
            return text.toString();
        }

        String story() {
            StringBuilder text = new StringBuilder();
            String[] words = {"machine", "tape", "at", "room", "second", "talk", "rec", "erase", "copy", "cut"};
            int[] least = {0, 0, 0, 0, 0, 1, 1, 1, 0, 1};
            int[] most = {5, 1, reach - 1, 3, 1999, 9, reach, reach, reach - 1, reach / 2};
            int acts = dice.nextInt(dice.nextInt(6) == 0 ? 45 : 16);
            for (int i = 0; i < acts; i++) {
                int word = dice.nextInt(3) == 0 ? 6 : dice.nextInt(10);
                int number = number(least[word], most[word]);
                if (word >= 6 && dice.nextBoolean()) {
                    number = number(least[word], 6);
                }
                if (word == 4 && dice.nextBoolean()) {
                    number = number(0, 40);
                }
                if (word == 8) {
                    text.append("copy ").append(number).append(gap()).append(number(1, reach)).append(';');
                } else {
                    text.append(line(words[word], number));
                }
            }
            return text.toString();
        }

        String reader() {
            StringBuilder text = new StringBuilder();
            int lines = dice.nextInt(dice.nextInt(6) == 0 ? 15 : 6);
            for (int i = 0; i < lines; i++) {
                text.append(new String[] {"wiped", "joined", "copied", "whole"}[dice.nextInt(4)]);
                text.append(gap()).append("when").append(gap());
                text.append(either(dice.nextInt(lines > 6 ? 2 : 11))).append(";").append(maybeGap());
            }
            return text.toString();
        }

        private String either(int depth) {
            return dice.nextInt(4) == 0 ? both(depth) + gap() + "or" + gap() + both(depth) : both(depth);
        }

        private String both(int depth) {
            return dice.nextInt(4) == 0 ? clause(depth) + gap() + "and" + gap() + clause(depth) : clause(depth);
        }

        private String clause(int depth) {
            if (depth > 0 && dice.nextInt(6) > 0) {
                return dice.nextBoolean() ? "not" + gap() + clause(depth - 1) : "(" + either(depth - 1) + ")";
            }
            return sum() + maybeGap() + "<=>".charAt(dice.nextInt(3)) + maybeGap() + sum();
        }

        private String sum() {
            return dice.nextInt(4) == 0 ? product() + "+-".charAt(dice.nextInt(2)) + sum() : product();
        }

        private String product() {
            StringBuilder text = new StringBuilder(unit());
            while (dice.nextInt(4) == 0) {
                if (dice.nextBoolean()) {
                    text.append("*").append(unit());
                } else {
                    text.append("/").append(dice.nextInt(12));
                }
            }
            return text.toString();
        }

        private String unit() {
            String[] words = {"mark", "air", "jump", "hiss", "beats", "left", "sound", "place", "knew"};
            if (dice.nextInt(3) > 0) {
                return words[dice.nextInt(9)];
            }
            return "" + dice.nextInt(dice.nextInt(4) == 0 ? 10000 : 12);
        }

        String spoilt(String text) {
            StringBuilder changed = new StringBuilder(text);
            String signs = ";;+-*/()<=> \n09aZ#" + (char) 200 + (char) 0;
            int times = 1 + dice.nextInt(2);
            for (int i = 0; i < times; i++) {
                int place = dice.nextInt(changed.length() + 1);
                char sign = signs.charAt(dice.nextInt(signs.length()));
                if (dice.nextInt(3) == 0 || place == changed.length()) {
                    changed.insert(place, sign);
                } else if (dice.nextBoolean()) {
                    changed.setCharAt(place, sign);
                } else {
                    changed.delete(place, Math.min(changed.length(), place + 1 + dice.nextInt(6)));
                }
            }
            return changed.toString();
        }
    }
}
