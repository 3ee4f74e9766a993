import java.util.Arrays;

/** Tapes and the hands that went over them; the document DOC.md says what each call answers. */
public final class HumTape {
    public static final int NONE = -1;

    private static final int MACHINES = 6;
    private static final int STORIES = 6;
    private static final int READERS = 4;
    private static final int TAPES = 2;
    private static final int PLACES = 300;
    private static final int MOST_SECONDS = 2000;
    private static final int MOST_BEAT = 63;
    private static final int MOST_VALUE = 99;
    private static final int MOST_AIR = 9;
    private static final int MOST_DOUBT = 9999;
    private static final int LEAST_SPEED = 50;
    private static final int MOST_SPEED = 150;
    private static final int MOST_DRAWN = 500;

    // The rows of a tape, by the numbers that at() asks them with.
    private static final int SOUND = 0;
    private static final int AIR = 1;
    private static final int FIRST = 2;
    private static final int SECOND = 3;
    private static final int HISS = 4;
    private static final int MARK = 5;
    private static final int LEFT = 6;
    private static final int WIDTH = 7;
    private static final int HAPPENED = 8;
    private static final int JOINED = 9;
    private static final int ROWS = 10;
    private static final int HEARD_ROWS = 7;
    private static final int[] BLANK = {0, NONE, NONE, NONE, 0, 0, 0, 0, 0, 0};

    private static final int WIPED = 1;
    private static final int OVER = 2;
    private static final int COPIED = 3;

    // What a reader says.
    private static final int SAYS_WIPED = 1;
    private static final int SAYS_JOINED = 2;
    private static final int SAYS_COPIED = 3;
    private static final int SAYS_WHOLE = 4;

    // The numbers of a machine, in the order of its keywords.
    private static final String MACHINE_WORDS = "start stop wipe lift width hiss hum speed ";
    private static final int START_MARK = 0;
    private static final int STOP_MARK = 1;
    private static final int WIPE_MARK = 2;
    private static final int LIFT_MARK = 3;
    private static final int OWN_WIDTH = 4;
    private static final int OWN_HISS = 5;
    private static final int HAS_HUM = 6;
    private static final int OWN_SPEED = 7;
    private static final int MACHINE_NUMBERS = 8;
    private static final int[] MACHINE_LEAST = {1, 1, 1, 1, 1, 0, 0, 50};
    private static final int[] MACHINE_MOST = {99, 99, 99, 99, 9, 9, 1, 150};
    private static final int[] MACHINE_WITHOUT = {0, 0, 0, 0, 5, 0, 0, 100};

    // The acts of a story, in the order of its keywords.
    private static final String STORY_WORDS = "machine tape at room second talk rec erase copy cut ";
    private static final int TAKE_MACHINE = 0;
    private static final int TAKE_TAPE = 1;
    private static final int GO_AT = 2;
    private static final int GO_ROOM = 3;
    private static final int GO_SECOND = 4;
    private static final int TALK = 5;
    private static final int REC = 6;
    private static final int ERASE = 7;
    private static final int COPY = 8;
    private static final int CUT = 9;
    private static final int[] ACT_LEAST = {0, 0, 0, 0, 0, 1, 1, 1, 0, 1};
    private static final int[] ACT_MOST = {5, 1, 299, 9, 1999, 99, 300, 300, 299, 300};
    private static final int MOST_ACTS = 40;

    // The words of a reader: what he says, the words between, what he asks.
    private static final String READER_WORDS =
            "wiped joined copied whole when or and not mark air jump hiss beats left sound place knew ";
    private static final int WORD_WHOLE = 3;
    private static final int WORD_WHEN = 4;
    private static final int WORD_OR = 5;
    private static final int WORD_AND = 6;
    private static final int WORD_NOT = 7;
    private static final int WORD_MARK = 8;
    private static final int ASK_MARK = 0;
    private static final int ASK_AIR = 1;
    private static final int ASK_JUMP = 2;
    private static final int ASK_HISS = 3;
    private static final int ASK_BEATS = 4;
    private static final int ASK_LEFT = 5;
    private static final int ASK_SOUND = 6;
    private static final int ASK_PLACE = 7;
    private static final int ASK_KNEW = 8;
    private static final int ASKS = 9;
    private static final int MOST_LINES = 12;
    private static final int MOST_OPEN = 8;

    // What a reader's condition is made of; a higher RANK binds closer.
    private static final int OPEN = 0;
    private static final int OR = 1;
    private static final int AND = 2;
    private static final int NOT = 3;
    private static final int LESS = 4;
    private static final int SAME = 5;
    private static final int MORE = 6;
    private static final int PLUS = 7;
    private static final int MINUS = 8;
    private static final int TIMES = 9;
    private static final int PART = 10;
    private static final int NUMBER_STEP = 11;
    private static final int ASK_STEP = 12;
    private static final int[] RANK = {0, 1, 2, 3, 4, 4, 4, 5, 5, 6, 6};
    private static final int STEP_BITS = 4;
    private static final int STACK = 64;

    private static final int MOST_BYTES = 600;
    private static final int FED_BYTES = 20;

    // Kinds of tokens.
    private static final int END_TOKEN = 0;
    private static final int BAD_TOKEN = 1;
    private static final int WORD_TOKEN = 2;
    private static final int NUMBER_TOKEN = 3;
    private static final int SIGN_TOKEN = 4;

    private static final int MISPLACED = 1;
    private static final int CANNOT_BE = 2;
    private static final int TOO_MANY = 3;

    // What may come next in a reader's text.
    private static final int FAILED = 0;
    private static final int LINE = 1;
    private static final int WHEN = 2;
    private static final int CLAUSE = 3;
    private static final int OPERAND = 4;
    private static final int DIVISOR = 5;
    private static final int ARITHMETIC = 6;
    private static final int LOGIC = 7;

    private static final int MOST_STROKED = 40;
    private static final int WEIGHED_MARKS = 8;
    private static final int PEDAL_MARKS = 8;
    private static final int THROUGH_BOUND = 1;

    private final Land land;
    private final Parser parser;
    private final Machine[] machines;
    private final Story[] stories;
    private final Reader[] readers;
    private final Tape[] tapes;
    private final Tape[] trials;
    private final Hand hand;
    private final Slider slider;
    private final Strokes strokes;
    private final Foot foot;
    private final int[] asked;
    // A text is read into a spare one, which changes places with the old one if there is no fault.
    private Machine spareMachine;
    private Story spareStory;
    private Reader spareReader;
    private int lastRun;

    public HumTape() {
        land = new Land();
        parser = new Parser();
        machines = new Machine[MACHINES];
        for (int i = 0; i < MACHINES; i++) {
            machines[i] = new Machine();
        }
        stories = new Story[STORIES];
        for (int i = 0; i < STORIES; i++) {
            stories[i] = new Story();
        }
        readers = new Reader[READERS];
        for (int i = 0; i < READERS; i++) {
            readers[i] = new Reader();
        }
        tapes = new Tape[TAPES];
        trials = new Tape[TAPES];
        for (int i = 0; i < TAPES; i++) {
            tapes[i] = new Tape();
            trials[i] = new Tape();
        }
        hand = new Hand();
        slider = new Slider();
        strokes = new Strokes();
        foot = new Foot();
        asked = new int[ASKS];
        spareMachine = new Machine();
        spareStory = new Story();
        spareReader = new Reader();
        lastRun = NONE;
    }

    public int state(int v) {
        int was = land.draws;
        land.draws = v;
        return was;
    }

    public int beats(int a, int n) {
        if (n < 1 || n > 4 || land.count + n > MOST_SECONDS) {
            return NONE;
        }
        for (int i = 0; i < n; i++) {
            land.add((a >>> (24 - 8 * i)) & MOST_BEAT);
        }
        return land.count;
    }

    public int drawn(int n) {
        if (n < 1 || n > MOST_DRAWN || land.count + n > MOST_SECONDS) {
            return NONE;
        }
        for (int i = 0; i < n; i++) {
            land.addDrawn();
        }
        return land.count;
    }

    public int hum(int t) {
        return land.beatOf(t);
    }

    public int feed(int a, int b, int c, int d, int e) {
        Tokens tokens = parser.tokens;
        if (tokens.length + FED_BYTES > MOST_BYTES) {
            return NONE;
        }
        tokens.take(a);
        tokens.take(b);
        tokens.take(c);
        tokens.take(d);
        tokens.take(e);
        return tokens.length;
    }

    public boolean end(int n) {
        if (n < 0 || n > parser.tokens.length) {
            return false;
        }
        parser.tokens.length = n;
        return true;
    }

    public int text(int sort, int k) {
        parser.faultKind = 0;
        parser.faultPlace = NONE;
        int lines = NONE;
        if (sort == 0 && isWithin(k, 0, MACHINES - 1)) {
            lines = takeMachine(k);
        } else if (sort == 1 && isWithin(k, 0, STORIES - 1)) {
            lines = takeStory(k);
        } else if (sort == 2 && isWithin(k, 0, READERS - 1)) {
            lines = takeReader(k);
        }
        parser.tokens.length = 0;
        return lines;
    }

    private int takeMachine(int k) {
        if (!parser.readMachine(spareMachine)) {
            return NONE;
        }
        Machine old = machines[k];
        machines[k] = spareMachine;
        spareMachine = old;
        return machines[k].lines;
    }

    private int takeStory(int k) {
        if (!parser.readStory(spareStory)) {
            return NONE;
        }
        Story old = stories[k];
        stories[k] = spareStory;
        spareStory = old;
        return stories[k].acts;
    }

    private int takeReader(int k) {
        if (!parser.readReader(spareReader)) {
            return NONE;
        }
        Reader old = readers[k];
        readers[k] = spareReader;
        spareReader = old;
        return readers[k].lines;
    }

    public int fault(int what) {
        if (what == 0) {
            return parser.faultKind;
        }
        return what == 1 ? parser.faultPlace : NONE;
    }

    public int machine(int k, int what) {
        if (!isWithin(k, 0, MACHINES - 1) || !isWithin(what, 0, MACHINE_NUMBERS - 1)) {
            return NONE;
        }
        return machines[k].numbers[what];
    }

    public int run(int k) {
        if (!isWithin(k, 0, STORIES - 1)) {
            return NONE;
        }
        hand.perform(stories[k], machines, land, tapes);
        lastRun = k;
        return tapes[0].countUnlike(WIDTH, 0) + tapes[1].countUnlike(WIDTH, 0);
    }

    public int at(int tape, int place, int what) {
        if (!isPiece(tape, place, place) || !isWithin(what, 0, ROWS - 1)) {
            return NONE - 1;
        }
        return tapes[tape].rows[what][place];
    }

    public boolean heard(int tape, int place, int what, int v) {
        if (!isPiece(tape, place, place) || !isWithin(what, 0, HEARD_ROWS - 1)) {
            return false;
        }
        Tape told = tapes[tape];
        if (told.isBlank(place) || !told.canHear(place, what, v)) {
            return false;
        }
        told.rows[what][place] = v;
        return true;
    }

    public int marks(int tape, int a, int b, int what) {
        if (!isPiece(tape, a, b) || what < 0) {
            return NONE;
        }
        int count = 0;
        for (int place = a; place <= b; place++) {
            if (tapes[tape].rows[MARK][place] != 0) {
                count++;
                if (count == what) {
                    return place;
                }
            }
        }
        return what == 0 ? count : NONE;
    }

    public int settings(int tape, int a, int b) {
        if (!isPiece(tape, a, b) || b - a + 1 > MOST_STROKED || tapes[tape].hasBlank(a, b)) {
            return NONE;
        }
        return strokes.fewest(tapes[tape], a, b - a + 1);
    }

    public int which(int tape, int a, int b, int machine, int what) {
        if (!isPiece(tape, a, b) || !isWithin(machine, 0, MACHINES - 1) || !isWithin(what, 0, 1)) {
            return NONE;
        }
        int own = weigh(tapes[tape], a, b, machines[machine]);
        if (what == 1) {
            return own;
        }
        int all = 0;
        for (int i = 0; i < MACHINES; i++) {
            all += weigh(tapes[tape], a, b, machines[i]);
        }
        return all == 0 ? NONE : 1000 * own / all;
    }

    private static int weigh(Tape tape, int a, int b, Machine machine) {
        int weight = 1;
        int seen = 0;
        for (int place = a; place <= b && seen < WEIGHED_MARKS; place++) {
            int mark = tape.rows[MARK][place];
            if (mark != 0) {
                seen++;
                weight *= machine.leaves(mark) ? 5 : 1;
            }
        }
        return weight;
    }

    public int slide(int tape, int a, int b, int row, int speed, int doubt, int what) {
        if (!isPiece(tape, a, b) || !isWithin(row, 0, 1) || !isWithin(speed, LEAST_SPEED, MOST_SPEED)
                || !isWithin(doubt, 0, MOST_DOUBT) || b - a + 1 > land.count) {
            return NONE;
        }
        slider.slideAlong(land, tapes[tape].rows[FIRST + row], a, b, speed, doubt);
        switch (what) {
            case 0:
                return slider.fits;
            case 1:
                return slider.firstFit;
            case 2:
                return slider.best;
            case 3:
                return slider.bestOff;
            default:
                return NONE;
        }
    }

    public int need(int tape, int a, int b, int doubt) {
        if (!isPiece(tape, a, b) || !isWithin(doubt, 0, MOST_DOUBT)) {
            return NONE;
        }
        return slider.fewestPlaces(land, tapes[tape].rows[FIRST], a, b, doubt);
    }

    public int speeds(int tape, int a, int b, int t, int doubt, int what) {
        if (!isPiece(tape, a, b) || !isWithin(t, 0, land.count - (b - a + 1))
                || !isWithin(doubt, 0, MOST_DOUBT) || !isWithin(what, 0, 2)) {
            return NONE;
        }
        int count = 0;
        int least = NONE;
        int greatest = NONE;
        for (int speed = LEAST_SPEED; speed <= MOST_SPEED; speed++) {
            if (land.offFrom(t, tapes[tape].rows[FIRST], a, b, speed) <= doubt) {
                count++;
                least = least == NONE ? speed : least;
                greatest = speed;
            }
        }
        if (what == 0) {
            return count;
        }
        return what == 1 ? least : greatest;
    }

    public int joins(int tape, int a, int b, int bound, int what) {
        if (!isPiece(tape, a, b) || !isWithin(bound, 0, MOST_BEAT) || what < 0) {
            return NONE;
        }
        int count = 0;
        for (int place = a + 1; place <= b; place++) {
            if (tapes[tape].isJoin(place, bound)) {
                count++;
                if (count == what) {
                    return place;
                }
            }
        }
        return what == 0 ? count : NONE;
    }

    public int through(int tape, int a, int b) {
        if (!isPiece(tape, a, b)) {
            return NONE;
        }
        Tape piece = tapes[tape];
        boolean full = true;
        for (int place = a; place <= b; place++) {
            boolean joined = place > a && piece.isJoin(place, THROUGH_BOUND);
            boolean marked = place > a && place < b && piece.rows[MARK][place] != 0;
            if (joined || marked || piece.isBlank(place)) {
                return 0;
            }
            full = full && piece.rows[AIR][place] != NONE && piece.rows[FIRST][place] != NONE;
        }
        return full ? 2 : 1;
    }

    public boolean pedal(int mark, int v) {
        if (mark == 0) {
            foot.forget();
            return true;
        }
        if (mark == NONE) {
            return foot.tellHold(v);
        }
        return foot.tellMark(mark);
    }

    public int could(int tape, int a, int b, int what) {
        if (!isPiece(tape, a, b) || !isWithin(what, 0, 1)) {
            return NONE;
        }
        int lacks = foot.lacks(tapes[tape], a, b);
        if (what == 1) {
            return lacks;
        }
        return lacks == 0 && tapes[tape].longestSilence(a, b) <= foot.hold ? 1 : 0;
    }

    public int alike(int tape, int k, int what) {
        if (!isWithin(tape, 0, TAPES - 1)) {
            return NONE;
        }
        if (what == 0) {
            return isWithin(k, 0, STORIES - 1) ? likeness(tape, k) : NONE;
        }
        if (what != 1) {
            return NONE;
        }
        int best = 0;
        int most = likeness(tape, 0);
        for (int i = 1; i < STORIES; i++) {
            int same = likeness(tape, i);
            if (same > most || same == most && stories[i].acts < stories[best].acts) {
                best = i;
                most = same;
            }
        }
        return best;
    }

    private int likeness(int tape, int k) {
        hand.perform(stories[k], machines, land, trials);
        return tapes[tape].countSame(trials[tape]);
    }

    public int says(int reader, int tape, int place, boolean knew) {
        if (!isWithin(reader, 0, READERS - 1) || !isPiece(tape, place, place)) {
            return NONE;
        }
        tapes[tape].tellAll(place, asked);
        return judge(reader, knew ? 1 : 0);
    }

    /** What a reader says of the place that the row asked tells of. */
    private int judge(int reader, int knew) {
        asked[ASK_KNEW] = knew;
        return readers[reader].judge(asked);
    }

    public int reader(int reader, int tape, int a, int b, int what) {
        if (!isWithin(reader, 0, READERS - 1) || !isPiece(tape, a, b) || !isWithin(what, 0, 2)) {
            return NONE;
        }
        int count = 0;
        for (int place = a; place <= b; place++) {
            if (!tapes[tape].isBlank(place) && counts(reader, tapes[tape], place, what)) {
                count++;
            }
        }
        return count;
    }

    private boolean counts(int reader, Tape tape, int place, int what) {
        tape.tellAll(place, asked);
        if (what == 2) {
            return judge(reader, 0) != judge(reader, 1);
        }
        return judge(reader, what) == tape.trueOf(place);
    }

    public int look(int what) {
        switch (what) {
            case 0:
                return land.count;
            case 1:
                return tapes[0].countUnlike(WIDTH, 0);
            case 2:
                return tapes[1].countUnlike(WIDTH, 0);
            case 3:
                return lastRun;
            case 4:
                return tapes[0].countUnlike(LEFT, 0) + tapes[1].countUnlike(LEFT, 0);
            case 5:
                return 2 * PLACES - tapes[0].countUnlike(HAPPENED, COPIED)
                        - tapes[1].countUnlike(HAPPENED, COPIED);
            default:
                return NONE;
        }
    }

    private static boolean isWithin(int v, int least, int most) {
        return v >= least && v <= most;
    }

    private static boolean isPiece(int tape, int a, int b) {
        return isWithin(tape, 0, TAPES - 1) && a >= 0 && a <= b && b < PLACES;
    }

    /** The hum of a land, second by second, and the state that draws it. */
    private static final class Land {
        private final int[] seconds;
        private int count;
        private int draws;

        Land() {
            seconds = new int[MOST_SECONDS];
        }

        void add(int beat) {
            if (count < MOST_SECONDS) {
                seconds[count] = beat;
                count++;
            }
        }

        void addDrawn() {
            int ahead = count > 0 ? seconds[count - 1] : 32;
            draws = 1664525 * draws + 1013904223;
            int beat = ahead + (draws >>> 8) % 3 - 1;
            add(Math.max(0, Math.min(MOST_BEAT, beat)));
        }

        int beatOf(int t) {
            return t >= 0 && t < count ? seconds[t] : NONE;
        }

        /** How far the beats of the places a .. b, heard by a speed, are from the seconds t on. */
        int offFrom(int t, int[] beats, int a, int b, int speed) {
            int off = 0;
            for (int place = a; place <= b; place++) {
                if (beats[place] != NONE) {
                    off += Math.abs(beats[place] * speed / 100 - beatOf(t + place - a));
                }
            }
            return off;
        }
    }

    private static final class Machine {
        private final int[] numbers;
        private int told;
        private int lines;

        Machine() {
            numbers = MACHINE_WITHOUT.clone();
        }

        void forget() {
            System.arraycopy(MACHINE_WITHOUT, 0, numbers, 0, MACHINE_NUMBERS);
            told = 0;
            lines = 0;
        }

        boolean isTold(int word) {
            return (told >> word & 1) == 1;
        }

        void tell(int word, int number) {
            numbers[word] = number;
            told |= 1 << word;
            lines++;
        }

        boolean leaves(int mark) {
            return mark == numbers[START_MARK] || mark == numbers[STOP_MARK]
                    || mark == numbers[WIPE_MARK] || mark == numbers[LIFT_MARK];
        }

        /** The beat that the machine leaves of one that it hears. */
        int beatLeft(int beat) {
            if (numbers[HAS_HUM] == 0 || beat == NONE || numbers[OWN_SPEED] == 0) {
                return NONE;
            }
            return Math.min(MOST_BEAT, beat * 100 / numbers[OWN_SPEED]);
        }
    }

    private static final class Story {
        private final int[] words;
        private final int[] numbers;
        private final int[] lengths;
        private int acts;

        Story() {
            words = new int[MOST_ACTS];
            numbers = new int[MOST_ACTS];
            lengths = new int[MOST_ACTS];
        }

        void add(int word, int number, int length) {
            if (acts < MOST_ACTS) {
                words[acts] = word;
                numbers[acts] = number;
                lengths[acts] = length;
                acts++;
            }
        }
    }

    /** A reader's lines, each with its condition as steps for a stack. */
    private static final class Reader {
        private final int[] answers;
        private final int[] starts;
        private final int[] steps;
        private final int[] stack;
        private int lines;
        private int size;
        private int depth;

        Reader() {
            answers = new int[MOST_LINES];
            starts = new int[MOST_LINES];
            steps = new int[MOST_BYTES];
            stack = new int[STACK];
        }

        void forget() {
            lines = 0;
            size = 0;
        }

        void addLine(int answer) {
            if (lines < MOST_LINES) {
                answers[lines] = answer;
                starts[lines] = size;
                lines++;
            }
        }

        void addStep(int step, int value) {
            if (size < MOST_BYTES) {
                steps[size] = value << STEP_BITS | step;
                size++;
            }
        }

        int judge(int[] asked) {
            for (int line = 0; line < lines; line++) {
                int behind = line + 1 < lines ? starts[line + 1] : size;
                if (isSo(starts[line], behind, asked)) {
                    return answers[line];
                }
            }
            return 0;
        }

        private boolean isSo(int from, int behind, int[] asked) {
            depth = 0;
            for (int i = from; i < behind; i++) {
                int step = steps[i] & (1 << STEP_BITS) - 1;
                int value = steps[i] >> STEP_BITS;
                if (step == NUMBER_STEP) {
                    push(value);
                } else if (step == ASK_STEP) {
                    push(value >= 0 && value < ASKS ? asked[value] : 0);
                } else if (step == NOT) {
                    push(pull() == 0 ? 1 : 0);
                } else {
                    int right = pull();
                    push(combine(step, pull(), right));
                }
            }
            return pull() != 0;
        }

        private void push(int value) {
            if (depth < STACK) {
                stack[depth] = value;
                depth++;
            }
        }

        private int pull() {
            if (depth == 0) {
                return 0;
            }
            depth--;
            return stack[depth];
        }

        private static int combine(int step, int left, int right) {
            switch (step) {
                case OR:
                    return left | right;
                case AND:
                    return left & right;
                case LESS:
                    return left < right ? 1 : 0;
                case SAME:
                    return left == right ? 1 : 0;
                case MORE:
                    return left > right ? 1 : 0;
                case PLUS:
                    return left + right;
                case MINUS:
                    return left - right;
                case TIMES:
                    return left * right;
                default:
                    return right == 0 ? 0 : left / right;
            }
        }
    }

    private static final class Tape {
        private final int[][] rows;

        Tape() {
            rows = new int[ROWS][PLACES];
            for (int row = AIR; row <= SECOND; row++) {
                Arrays.fill(rows[row], NONE);
            }
        }

        void blankFrom(int place) {
            for (int row = 0; row < ROWS; row++) {
                Arrays.fill(rows[row], place, PLACES, BLANK[row]);
            }
        }

        boolean isBlank(int place) {
            return rows[WIDTH][place] == 0;
        }

        boolean hasBlank(int a, int b) {
            for (int place = a; place <= b; place++) {
                if (isBlank(place)) {
                    return true;
                }
            }
            return false;
        }

        int countUnlike(int row, int value) {
            int count = 0;
            for (int place = 0; place < PLACES; place++) {
                if (rows[row][place] != value) {
                    count++;
                }
            }
            return count;
        }

        int countSame(Tape other) {
            int count = 0;
            for (int row = 0; row < HEARD_ROWS; row++) {
                for (int place = 0; place < PLACES; place++) {
                    if (rows[row][place] == other.rows[row][place]) {
                        count++;
                    }
                }
            }
            return count;
        }

        boolean canHear(int place, int what, int v) {
            if (what == AIR) {
                return isWithin(v, NONE, MOST_AIR);
            }
            if (what == FIRST) {
                return isWithin(v, NONE, MOST_BEAT) && (v != NONE || rows[SECOND][place] == NONE);
            }
            if (what == SECOND) {
                return isWithin(v, NONE, MOST_BEAT) && (v == NONE || rows[FIRST][place] != NONE);
            }
            return isWithin(v, 0, MOST_VALUE);
        }

        void cutOut(int at, int n) {
            int gone = Math.min(n, PLACES - at);
            if (at < 0 || gone <= 0) {
                return;
            }
            for (int row = 0; row < ROWS; row++) {
                System.arraycopy(rows[row], at + gone, rows[row], at, PLACES - at - gone);
            }
            blankFrom(PLACES - gone);
            if (!isBlank(at)) {
                rows[JOINED][at] = 1;
            }
        }

        int jumpOf(int place) {
            if (place == 0 || rows[FIRST][place] == NONE || rows[FIRST][place - 1] == NONE) {
                return 0;
            }
            return Math.abs(rows[FIRST][place] - rows[FIRST][place - 1]);
        }

        boolean isJoin(int place, int bound) {
            if (place == 0) {
                return false;
            }
            int air = rows[AIR][place];
            int ahead = rows[AIR][place - 1];
            return air != NONE && ahead != NONE && air != ahead || jumpOf(place) > bound;
        }

        int longestSilence(int a, int b) {
            int longest = 0;
            int length = 0;
            for (int place = a; place <= b; place++) {
                boolean silent = rows[SOUND][place] == 0 && !isBlank(place);
                length = silent ? length + 1 : 0;
                longest = Math.max(longest, length);
            }
            return longest;
        }

        /** All that a reader can ask of a place, but whether he knew. */
        void tellAll(int place, int[] asked) {
            int beats = rows[FIRST][place] == NONE ? 0 : 1;
            asked[ASK_MARK] = rows[MARK][place];
            asked[ASK_AIR] = rows[AIR][place] + 1;
            asked[ASK_JUMP] = jumpOf(place);
            asked[ASK_HISS] = rows[HISS][place];
            asked[ASK_BEATS] = rows[SECOND][place] == NONE ? beats : beats + 1;
            asked[ASK_LEFT] = rows[LEFT][place];
            asked[ASK_SOUND] = rows[SOUND][place];
            asked[ASK_PLACE] = place;
        }

        int trueOf(int place) {
            if (rows[JOINED][place] == 1) {
                return SAYS_JOINED;
            }
            if (rows[HAPPENED][place] == WIPED) {
                return SAYS_WIPED;
            }
            return rows[HAPPENED][place] == COPIED ? SAYS_COPIED : SAYS_WHOLE;
        }
    }

    /** The hand that goes through a story. */
    private static final class Hand {
        private int machine;
        private int tape;
        private int at;
        private int room;
        private int second;
        private int talk;

        void perform(Story story, Machine[] machines, Land land, Tape[] tapes) {
            for (int i = 0; i < TAPES; i++) {
                tapes[i].blankFrom(0);
            }
            machine = 0;
            tape = 0;
            at = 0;
            room = 0;
            second = 0;
            talk = 1;
            for (int i = 0; i < story.acts; i++) {
                if (story.words[i] <= TALK) {
                    set(story.words[i], story.numbers[i]);
                } else {
                    stroke(story, i, machines[machine], land, tapes);
                }
            }
        }

        private void set(int word, int number) {
            switch (word) {
                case TAKE_MACHINE:
                    machine = number;
                    break;
                case TAKE_TAPE:
                    tape = number;
                    break;
                case GO_AT:
                    at = number;
                    break;
                case GO_ROOM:
                    room = number;
                    break;
                case GO_SECOND:
                    second = number;
                    break;
                default:
                    talk = number;
                    break;
            }
        }

        private void stroke(Story story, int i, Machine by, Land land, Tape[] tapes) {
            int number = story.numbers[i];
            switch (story.words[i]) {
                case REC:
                    record(tapes[tape], number, by, land);
                    break;
                case ERASE:
                    wipe(tapes[tape], number, by, land);
                    break;
                case COPY:
                    int count = Math.min(story.lengths[i], PLACES - number);
                    copy(tapes[tape], tapes[1 - tape], number, count, by, land);
                    break;
                case CUT:
                    tapes[tape].cutOut(at, number);
                    break;
                default:
                    break;
            }
        }

        private void record(Tape to, int n, Machine by, Land land) {
            int from = at;
            int behind = Math.min(PLACES, from + n);
            for (int place = from; place < behind; place++) {
                int happened = to.isBlank(place) ? 0 : OVER;
                goOver(to, place, by, land);
                to.rows[SOUND][place] = talk;
                to.rows[AIR][place] = room;
                to.rows[HAPPENED][place] = happened;
            }
            leaveMarks(to, from, by.numbers[START_MARK], by.numbers[STOP_MARK]);
        }

        private void wipe(Tape to, int n, Machine by, Land land) {
            int from = at;
            int behind = Math.min(PLACES, from + n);
            for (int place = from; place < behind; place++) {
                goOver(to, place, by, land);
                to.rows[SOUND][place] = 0;
                to.rows[AIR][place] = NONE;
                to.rows[HAPPENED][place] = WIPED;
            }
            leaveMarks(to, from, by.numbers[WIPE_MARK], by.numbers[LIFT_MARK]);
        }

        private void copy(Tape to, Tape other, int a, int n, Machine by, Land land) {
            int from = at;
            int behind = Math.min(PLACES, from + n);
            for (int place = from; place < behind; place++) {
                goOver(to, place, by, land);
                takeOver(to.rows, place, other.rows, a + place - from);
            }
            leaveMarks(to, from, by.numbers[START_MARK], by.numbers[STOP_MARK]);
        }

        /** What every stroke does alike; the hand is behind the place then. */
        private void goOver(Tape to, int place, Machine by, Land land) {
            int width = by.numbers[OWN_WIDTH];
            int[][] rows = to.rows;
            rows[LEFT][place] = rows[WIDTH][place] > width ? rows[SOUND][place] : 0;
            rows[WIDTH][place] = width;
            rows[FIRST][place] = by.beatLeft(land.beatOf(second));
            rows[SECOND][place] = NONE;
            rows[HISS][place] = by.numbers[OWN_HISS];
            rows[MARK][place] = 0;
            rows[JOINED][place] = 0;
            second++;
            at = place + 1;
        }

        private static void takeOver(int[][] rows, int place, int[][] others, int source) {
            rows[SOUND][place] = others[SOUND][source];
            rows[AIR][place] = others[AIR][source];
            if (others[FIRST][source] != NONE) {
                rows[SECOND][place] = rows[FIRST][place];
                rows[FIRST][place] = others[FIRST][source];
            }
            rows[HISS][place] = Math.min(MOST_VALUE, rows[HISS][place] + others[HISS][source]);
            rows[HAPPENED][place] = COPIED;
        }

        private void leaveMarks(Tape to, int from, int start, int stop) {
            if (from < at) {
                to.rows[MARK][from] = start;
                to.rows[MARK][at - 1] = stop;
            }
        }
    }

    /** Slides rows of beats along the land's hum. */
    private static final class Slider {
        private final int[] offs;
        private int fits;
        private int firstFit;
        private int best;
        private int bestOff;

        Slider() {
            offs = new int[MOST_SECONDS];
        }

        void slideAlong(Land land, int[] beats, int a, int b, int speed, int doubt) {
            fits = 0;
            firstFit = NONE;
            best = NONE;
            bestOff = NONE;
            int last = land.count - (b - a + 1);
            for (int t = 0; t <= last; t++) {
                int off = land.offFrom(t, beats, a, b, speed);
                if (off <= doubt) {
                    firstFit = fits == 0 ? t : firstFit;
                    fits++;
                }
                if (best == NONE || off < bestOff) {
                    best = t;
                    bestOff = off;
                }
            }
        }

        int fewestPlaces(Land land, int[] beats, int a, int b, int doubt) {
            Arrays.fill(offs, 0);
            for (int place = a; place <= b; place++) {
                int ahead = place - a;
                int fitting = 0;
                for (int t = 0; t + ahead < land.count; t++) {
                    if (beats[place] != NONE) {
                        offs[t] += Math.abs(beats[place] - land.seconds[t + ahead]);
                    }
                    fitting += offs[t] <= doubt ? 1 : 0;
                }
                if (fitting == 1) {
                    return ahead + 1;
                }
            }
            return NONE;
        }
    }

    /** The fewest strokes that leave a row of colours. */
    private static final class Strokes {
        private final int[] colours;
        private final int[][] grid;

        Strokes() {
            colours = new int[MOST_STROKED];
            grid = new int[MOST_STROKED][MOST_STROKED];
        }

        int fewest(Tape tape, int a, int n) {
            for (int i = 0; i < n; i++) {
                int sounds = tape.rows[SOUND][a + i] == 0 ? 0 : 1;
                colours[i] = 2 * tape.rows[WIDTH][a + i] + sounds;
            }
            for (int i = n - 1; i >= 0; i--) {
                for (int j = i; j < n; j++) {
                    grid[i][j] = fewestOf(i, j);
                }
            }
            return grid[0][n - 1];
        }

        /** The stroke that leaves i's colour is for i alone, or goes on to a later one of its colour. */
        private int fewestOf(int i, int j) {
            int least = 1 + between(i + 1, j);
            for (int k = i + 1; k <= j; k++) {
                if (colours[k] == colours[i]) {
                    least = Math.min(least, between(i + 1, k - 1) + grid[k][j]);
                }
            }
            return least;
        }

        private int between(int i, int j) {
            return i > j ? 0 : grid[i][j];
        }
    }

    /** A pedal's marks, and how long a foot can hold it. */
    private static final class Foot {
        private final int[] marks;
        private final int[] seen;
        private int count;
        private int hold;

        Foot() {
            marks = new int[PEDAL_MARKS];
            seen = new int[MOST_VALUE + 1];
            hold = PLACES;
        }

        void forget() {
            count = 0;
            hold = PLACES;
        }

        boolean tellHold(int v) {
            if (!isWithin(v, 1, PLACES)) {
                return false;
            }
            hold = v;
            return true;
        }

        boolean tellMark(int mark) {
            if (!isWithin(mark, 1, MOST_VALUE) || count >= PEDAL_MARKS || leaves(mark)) {
                return false;
            }
            marks[count] = mark;
            count++;
            return true;
        }

        boolean leaves(int mark) {
            for (int i = 0; i < count; i++) {
                if (marks[i] == mark) {
                    return true;
                }
            }
            return false;
        }

        int lacks(Tape tape, int a, int b) {
            Arrays.fill(seen, 0);
            int lacking = 0;
            for (int place = a; place <= b; place++) {
                int mark = tape.rows[MARK][place];
                if (isWithin(mark, 1, MOST_VALUE) && seen[mark] == 0 && !leaves(mark)) {
                    seen[mark] = 1;
                    lacking++;
                }
            }
            return lacking;
        }
    }

    /** The tape of bytes, and the tokens that a text on it is made of. */
    private static final class Tokens {
        private final int[] bytes;
        private final int[] kinds;
        private final int[] values;
        private final int[] places;
        private int length;
        private int position;
        private int count;
        private int current;

        Tokens() {
            bytes = new int[MOST_BYTES];
            kinds = new int[MOST_BYTES + 1];
            values = new int[MOST_BYTES + 1];
            places = new int[MOST_BYTES + 1];
        }

        void take(int four) {
            for (int shift = 24; shift >= 0 && length < MOST_BYTES; shift -= 8) {
                bytes[length] = four >>> shift & 255;
                length++;
            }
        }

        /** The last token is the text's end, at its length. */
        void split(String words) {
            position = 0;
            count = 0;
            current = 0;
            for (int i = 0; i < MOST_BYTES && position < length; i++) {
                int sign = bytes[position];
                if (sign == ' ' || sign == '\n') {
                    position++;
                } else if (isLetter(sign)) {
                    readWord(words);
                } else if (isDigit(sign)) {
                    readDigits();
                } else {
                    add(SIGN_TOKEN, sign, position);
                    position++;
                }
            }
            add(END_TOKEN, 0, length);
        }

        private void add(int kind, int value, int place) {
            if (count <= MOST_BYTES) {
                kinds[count] = kind;
                values[count] = value;
                places[count] = place;
                count++;
            }
        }

        private static boolean isLetter(int sign) {
            return isWithin(sign, 'a', 'z') || isWithin(sign, 'A', 'Z');
        }

        private static boolean isDigit(int sign) {
            return isWithin(sign, '0', '9');
        }

        private void readWord(String words) {
            int from = position;
            while (position < length && isLetter(bytes[position])) {
                position++;
            }
            int word = keyword(words, from);
            add(word == NONE ? BAD_TOKEN : WORD_TOKEN, word, from);
        }

        /** Which of the words, each with a blank behind it, stands from a place to the position. */
        private int keyword(String words, int place) {
            int index = 0;
            int from = 0;
            for (int i = 0; i < words.length(); i++) {
                if (words.charAt(i) == ' ') {
                    if (i - from == position - place && isSame(words, from, i, place)) {
                        return index;
                    }
                    index++;
                    from = i + 1;
                }
            }
            return NONE;
        }

        private boolean isSame(String words, int from, int behind, int place) {
            for (int i = from; i < behind; i++) {
                if (words.charAt(i) != bytes[place + i - from]) {
                    return false;
                }
            }
            return true;
        }

        private void readDigits() {
            int from = position;
            int number = 0;
            while (position < length && isDigit(bytes[position])) {
                // More than four digits are no number, and must not overflow.
                number = position - from < 4 ? 10 * number + bytes[position] - '0' : 0;
                position++;
            }
            add(position - from > 4 ? BAD_TOKEN : NUMBER_TOKEN, number, from);
        }

        void advance() {
            if (current < count - 1) {
                current++;
            }
        }

        int kind() {
            return kinds[current];
        }

        int value() {
            return values[current];
        }

        boolean isWord(int word) {
            return kinds[current] == WORD_TOKEN && values[current] == word;
        }

        boolean isSign(char sign) {
            return kinds[current] == SIGN_TOKEN && values[current] == sign;
        }
    }

    /** Reads the three sorts of texts; the first fault ends the reading. */
    private static final class Parser {
        private final Tokens tokens;
        private final int[] waiting;
        private int waitingCount;
        private int open;
        private boolean compared;
        private int faultKind;
        private int faultPlace;

        Parser() {
            tokens = new Tokens();
            waiting = new int[STACK];
            faultPlace = NONE;
        }

        private int refuse(int kind) {
            faultKind = kind;
            faultPlace = tokens.places[tokens.current];
            return FAILED;
        }

        private boolean hasFault() {
            return faultKind != 0;
        }

        boolean readMachine(Machine into) {
            into.forget();
            tokens.split(MACHINE_WORDS);
            for (int i = 0; i < MOST_BYTES && tokens.kind() != END_TOKEN && !hasFault(); i++) {
                readMachineLine(into);
            }
            return !hasFault();
        }

        private void readMachineLine(Machine into) {
            int word = tokens.value();
            if (tokens.kind() != WORD_TOKEN) {
                refuse(MISPLACED);
            } else if (into.isTold(word)) {
                refuse(TOO_MANY);
            } else {
                tokens.advance();
                into.tell(word, readNumber(MACHINE_LEAST[word], MACHINE_MOST[word]));
                readLineEnd();
            }
        }

        boolean readStory(Story into) {
            into.acts = 0;
            tokens.split(STORY_WORDS);
            for (int i = 0; i < MOST_BYTES && tokens.kind() != END_TOKEN && !hasFault(); i++) {
                readAct(into);
            }
            return !hasFault();
        }

        private void readAct(Story into) {
            int word = tokens.value();
            if (tokens.kind() != WORD_TOKEN) {
                refuse(MISPLACED);
            } else if (into.acts >= MOST_ACTS) {
                refuse(TOO_MANY);
            } else {
                tokens.advance();
                int number = readNumber(ACT_LEAST[word], ACT_MOST[word]);
                int length = word == COPY ? readNumber(1, PLACES) : 0;
                into.add(word, number, length);
                readLineEnd();
            }
        }

        private int readNumber(int least, int most) {
            int number = tokens.value();
            if (hasFault()) {
                return 0;
            }
            if (tokens.kind() != NUMBER_TOKEN) {
                refuse(MISPLACED);
            } else if (!isWithin(number, least, most)) {
                refuse(CANNOT_BE);
            }
            tokens.advance();
            return number;
        }

        private void readLineEnd() {
            if (!hasFault() && !tokens.isSign(';')) {
                refuse(MISPLACED);
            }
            tokens.advance();
        }

        /** Reads token by token: each part answers with what may come behind it. */
        boolean readReader(Reader into) {
            into.forget();
            tokens.split(READER_WORDS);
            int phase = LINE;
            for (int i = 0; i <= MOST_BYTES && phase != FAILED; i++) {
                if (phase == LINE && tokens.kind() == END_TOKEN) {
                    return true;
                }
                switch (phase) {
                    case LINE:
                        phase = readAnswer(into);
                        break;
                    case WHEN:
                        phase = tokens.isWord(WORD_WHEN) ? CLAUSE : refuse(MISPLACED);
                        break;
                    case CLAUSE:
                        phase = readClause(into);
                        break;
                    case OPERAND:
                        phase = readOperand(into);
                        break;
                    case DIVISOR:
                        phase = readDivisor(into);
                        break;
                    case ARITHMETIC:
                        phase = readArithmetic(into);
                        break;
                    default:
                        phase = readLogic(into);
                        break;
                }
                tokens.advance();
            }
            return false;
        }

        private int readAnswer(Reader into) {
            if (tokens.kind() != WORD_TOKEN || tokens.value() > WORD_WHOLE) {
                return refuse(MISPLACED);
            }
            if (into.lines >= MOST_LINES) {
                return refuse(TOO_MANY);
            }
            into.addLine(tokens.value() + 1);
            waitingCount = 0;
            open = 0;
            return WHEN;
        }

        private int readClause(Reader into) {
            boolean turns = tokens.isWord(WORD_NOT);
            if (!turns && !tokens.isSign('(')) {
                compared = false;
                return readOperand(into);
            }
            if (open >= MOST_OPEN) {
                return refuse(TOO_MANY);
            }
            open++;
            putOff(turns ? NOT : OPEN);
            return CLAUSE;
        }

        private int readOperand(Reader into) {
            if (tokens.kind() == NUMBER_TOKEN) {
                into.addStep(NUMBER_STEP, tokens.value());
            } else if (tokens.kind() == WORD_TOKEN && tokens.value() >= WORD_MARK) {
                into.addStep(ASK_STEP, tokens.value() - WORD_MARK);
            } else {
                return refuse(MISPLACED);
            }
            return ARITHMETIC;
        }

        private int readDivisor(Reader into) {
            if (tokens.kind() != NUMBER_TOKEN) {
                return refuse(MISPLACED);
            }
            if (tokens.value() == 0) {
                return refuse(CANNOT_BE);
            }
            return readOperand(into);
        }

        private int readArithmetic(Reader into) {
            int step = signStep();
            boolean compares = isWithin(step, LESS, MORE);
            if (step == NONE || compares && compared) {
                return compared ? readLogic(into) : refuse(MISPLACED);
            }
            compared = compared || compares;
            release(into, RANK[step]);
            putOff(step);
            return step == PART ? DIVISOR : OPERAND;
        }

        private int signStep() {
            if (tokens.kind() != SIGN_TOKEN) {
                return NONE;
            }
            switch (tokens.value()) {
                case '<':
                    return LESS;
                case '=':
                    return SAME;
                case '>':
                    return MORE;
                case '+':
                    return PLUS;
                case '-':
                    return MINUS;
                case '*':
                    return TIMES;
                case '/':
                    return PART;
                default:
                    return NONE;
            }
        }

        private int readLogic(Reader into) {
            boolean both = tokens.isWord(WORD_AND);
            if (both || tokens.isWord(WORD_OR)) {
                int step = both ? AND : OR;
                release(into, RANK[step]);
                putOff(step);
                return CLAUSE;
            }
            boolean closes = tokens.isSign(')');
            if (!closes && !tokens.isSign(';')) {
                return refuse(MISPLACED);
            }
            // Only an open bracket waits on then: a ) wants one, a ; wants none.
            release(into, RANK[OR]);
            if (closes != (waitingCount > 0)) {
                return refuse(MISPLACED);
            }
            if (!closes) {
                return LINE;
            }
            waitingCount--;
            open--;
            return LOGIC;
        }

        private void putOff(int step) {
            if (waitingCount < STACK) {
                waiting[waitingCount] = step;
                waitingCount++;
            }
        }

        /** The steps that wait, and bind at least so close as a rank, are taken now. */
        private void release(Reader into, int rank) {
            while (waitingCount > 0 && RANK[waiting[waitingCount - 1]] >= rank) {
                waitingCount--;
                into.addStep(waiting[waitingCount], 0);
                if (waiting[waitingCount] == NOT) {
                    open--;
                }
            }
        }
    }
}
