/** Counts answers that are as due, and those that are not. */
final class Check {
    private final String name;
    private int right;
    private int wrong;

    Check(String name) {
        this.name = name;
    }

    void due(String call, long want, long got) {
        if (got == want) {
            right++;
        } else {
            wrong++;
            System.out.println(name + ": " + call + " answered " + got + ", due is " + want);
        }
    }

    void due(String call, boolean want, boolean got) {
        due(call, want ? 1 : 0, got ? 1 : 0);
    }

    /** Ends the test: exit code 1 if an answer was wrong, or none was asked. */
    void finish() {
        System.out.println(name + ": " + right + " right, " + wrong + " wrong");
        if (wrong != 0 || right == 0) {
            System.exit(1);
        }
    }

    /** Puts a text on the tape of bytes. */
    static void type(HumTape x, String text) {
        int padded = (text.length() + 19) / 20 * 20;
        int[] numbers = new int[padded / 4];
        for (int i = 0; i < padded; i++) {
            int sign = i < text.length() ? text.charAt(i) : ' ';
            numbers[i / 4] = numbers[i / 4] << 8 | sign & 255;
        }
        int length = 0;
        for (int i = 0; i < numbers.length; i += 5) {
            length = x.feed(numbers[i], numbers[i + 1], numbers[i + 2], numbers[i + 3], numbers[i + 4]);
        }
        if (!x.end(length - padded + text.length())) {
            throw new IllegalStateException("the text did not fit: " + text);
        }
    }

    static int tell(HumTape x, int sort, int k, String text) {
        type(x, text);
        return x.text(sort, k);
    }

    static int machine(HumTape x, int k, String text) {
        return tell(x, 0, k, text);
    }

    static int story(HumTape x, int k, String text) {
        return tell(x, 1, k, text);
    }

    static int reader(HumTape x, int k, String text) {
        return tell(x, 2, k, text);
    }

    /** A new object that has run a story as its story 0, with a hum and machine 0 told. */
    static HumTape ran(int[] hum, String machine, String story) {
        HumTape x = new HumTape();
        for (int beat : hum) {
            x.beats(beat << 24, 1);
        }
        if (machine(x, 0, machine) < 0 || story(x, 0, story) < 0) {
            throw new IllegalStateException("a fault in: " + machine + " or " + story);
        }
        x.run(0);
        return x;
    }
}
