import java.util.ArrayList;
import java.util.HashMap;
import java.util.HashSet;
import java.util.List;
import java.util.Map;
import java.util.Set;
import java.util.TreeSet;
import java.util.function.IntBinaryOperator;

/** The document read a second time, as plainly as the whole Java library allows; ModelTest holds the class against it. */
final class Model {
    static final int NONE = -1;

    static final class Place implements Cloneable {
        int sound;
        Integer air;
        Integer first;
        Integer second;
        int hiss;
        int mark;
        int left;
        int width;
        int happened;
        boolean joined;

        Place copy() {
            try {
                return (Place) clone();
            } catch (CloneNotSupportedException e) {
                throw new IllegalStateException(e);
            }
        }
    }

    record Act(String word, int a, int b) { }

    record Token(String text, int place) { }

    interface Ask {
        int of(Map<String, Integer> asked);
    }

    record Line(int answer, Ask when) { }

    static final class Fault extends RuntimeException {
        private static final long serialVersionUID = 1L;
        final int kind;
        final int place;

        Fault(int kind, int place) {
            this.kind = kind;
            this.place = place;
        }
    }

    private static final List<String> MACHINE_WORDS =
            List.of("start", "stop", "wipe", "lift", "width", "hiss", "hum", "speed");

    private int state;
    private final List<Integer> hum = new ArrayList<>();
    private StringBuilder bytes = new StringBuilder();
    private final Map<Integer, Map<String, Integer>> machines = new HashMap<>();
    private final Map<Integer, List<Act>> stories = new HashMap<>();
    private final Map<Integer, List<Line>> readers = new HashMap<>();
    private int fault;
    private int faultPlace = NONE;
    private List<List<Place>> tapes = blankTapes();
    private int lastRun = NONE;
    private final Set<Integer> pedals = new TreeSet<>();
    private int hold = 300;

    private static List<List<Place>> blankTapes() {
        List<List<Place>> made = new ArrayList<>();
        for (int t = 0; t < 2; t++) {
            List<Place> tape = new ArrayList<>();
            for (int i = 0; i < 300; i++) {
                tape.add(new Place());
            }
            made.add(tape);
        }
        return made;
    }

    int state(int v) {
        int was = state;
        state = v;
        return was;
    }

    private int draw(int m) {
        state = 1664525 * state + 1013904223;
        return (int) (Integer.toUnsignedLong(state) / 256 % m);
    }

    int beats(int a, int n) {
        if (n < 1 || n > 4 || hum.size() + n > 2000) {
            return NONE;
        }
        int[] four = {a >>> 24, a >>> 16, a >>> 8, a};
        for (int i = 0; i < n; i++) {
            hum.add(four[i] % 64 & 63);
        }
        return hum.size();
    }

    int drawn(int n) {
        if (n < 1 || n > 500 || hum.size() + n > 2000) {
            return NONE;
        }
        for (int i = 0; i < n; i++) {
            int ahead = hum.isEmpty() ? 32 : hum.get(hum.size() - 1);
            int beat = ahead + draw(3) - 1;
            hum.add(beat < 0 ? 0 : beat > 63 ? 63 : beat);
        }
        return hum.size();
    }

    int hum(int t) {
        return t < 0 || t >= hum.size() ? NONE : hum.get(t);
    }

    int feed(int a, int b, int c, int d, int e) {
        if (bytes.length() + 20 > 600) {
            return NONE;
        }
        for (int number : new int[] {a, b, c, d, e}) {
            for (int i = 3; i >= 0; i--) {
                bytes.append((char) (number >> 8 * i & 255));
            }
        }
        return bytes.length();
    }

    boolean end(int n) {
        if (n < 0 || n > bytes.length()) {
            return false;
        }
        bytes.setLength(n);
        return true;
    }

    int text(int sort, int k) {
        String text = bytes.toString();
        bytes = new StringBuilder();
        fault = 0;
        faultPlace = NONE;
        if (sort < 0 || sort > 2 || k < 0 || k > (sort == 2 ? 3 : 5)) {
            return NONE;
        }
        try {
            TextReader reader = new TextReader(text);
            if (sort == 0) {
                Map<String, Integer> told = reader.machine();
                machines.put(k, told);
                return told.size();
            }
            if (sort == 1) {
                List<Act> acts = reader.story();
                stories.put(k, acts);
                return acts.size();
            }
            List<Line> lines = reader.reader();
            readers.put(k, lines);
            return lines.size();
        } catch (Fault f) {
            fault = f.kind;
            faultPlace = f.place;
            return NONE;
        }
    }

    /** Recursive descent over tokens that are cut off one by one. */
    private static final class TextReader {
        private final String text;
        private int next;
        private Token token;
        private int open;

        TextReader(String text) {
            this.text = text;
            step();
        }

        private void step() {
            while (next < text.length() && (text.charAt(next) == 32 || text.charAt(next) == 10)) {
                next++;
            }
            int from = next;
            if (from < text.length()) {
                next++;
                String rest = text.substring(from);
                if (rest.matches("(?s)[a-zA-Z].*")) {
                    next = from + rest.split("[^a-zA-Z]", 2)[0].length();
                } else if (rest.matches("(?s)[0-9].*")) {
                    next = from + rest.split("[^0-9]", 2)[0].length();
                }
            }
            token = new Token(text.substring(from, next), from);
        }

        private boolean is(String... words) {
            for (String word : words) {
                if (token.text.equals(word)) {
                    return true;
                }
            }
            return false;
        }

        private String expect(String... words) {
            if (!is(words)) {
                throw new Fault(1, token.place);
            }
            String was = token.text;
            step();
            return was;
        }

        private int number(int least, int most) {
            if (!token.text.matches("[0-9]{1,4}")) {
                throw new Fault(1, token.place);
            }
            int value = Integer.parseInt(token.text);
            if (value < least || value > most) {
                throw new Fault(2, token.place);
            }
            step();
            return value;
        }

        Map<String, Integer> machine() {
            Map<String, Integer> told = new HashMap<>();
            while (!token.text.isEmpty()) {
                int place = token.place;
                String word = expect(MACHINE_WORDS.toArray(new String[0]));
                if (told.containsKey(word)) {
                    throw new Fault(3, place);
                }
                int value;
                switch (word) {
                    case "width" -> value = number(1, 9);
                    case "hiss" -> value = number(0, 9);
                    case "hum" -> value = number(0, 1);
                    case "speed" -> value = number(50, 150);
                    default -> value = number(1, 99);
                }
                told.put(word, value);
                expect(";");
            }
            return told;
        }

        List<Act> story() {
            List<Act> acts = new ArrayList<>();
            while (!token.text.isEmpty()) {
                int place = token.place;
                String word = expect("machine", "tape", "at", "room", "second", "talk", "rec", "erase", "copy", "cut");
                if (acts.size() == 40) {
                    throw new Fault(3, place);
                }
                int b = 0;
                int a;
                switch (word) {
                    case "machine" -> a = number(0, 5);
                    case "tape" -> a = number(0, 1);
                    case "at" -> a = number(0, 299);
                    case "room" -> a = number(0, 9);
                    case "second" -> a = number(0, 1999);
                    case "talk" -> a = number(1, 99);
                    case "copy" -> {
                        a = number(0, 299);
                        b = number(1, 300);
                    }
                    default -> a = number(1, 300);
                }
                acts.add(new Act(word, a, b));
                expect(";");
            }
            return acts;
        }

        List<Line> reader() {
            List<Line> lines = new ArrayList<>();
            List<String> answers = List.of("wiped", "joined", "copied", "whole");
            while (!token.text.isEmpty()) {
                int place = token.place;
                String word = expect(answers.toArray(new String[0]));
                if (lines.size() == 12) {
                    throw new Fault(3, place);
                }
                expect("when");
                open = 0;
                lines.add(new Line(answers.indexOf(word) + 1, either()));
                expect(";");
            }
            return lines;
        }

        private Ask either() {
            Ask sum = both();
            while (is("or")) {
                step();
                Ask left = sum;
                Ask right = both();
                sum = asked -> left.of(asked) == 1 || right.of(asked) == 1 ? 1 : 0;
            }
            return sum;
        }

        private Ask both() {
            Ask sum = clause();
            while (is("and")) {
                step();
                Ask left = sum;
                Ask right = clause();
                sum = asked -> left.of(asked) == 1 && right.of(asked) == 1 ? 1 : 0;
            }
            return sum;
        }

        private Ask clause() {
            if (is("(", "not")) {
                if (open == 8) {
                    throw new Fault(3, token.place);
                }
                open++;
                boolean turns = is("not");
                step();
                Ask inner = turns ? clause() : either();
                if (!turns) {
                    expect(")");
                }
                open--;
                return turns ? asked -> 1 - inner.of(asked) : inner;
            }
            Ask left = sum();
            String sign = expect("<", "=", ">");
            Ask right = sum();
            return asked -> {
                int compared = Integer.compare(left.of(asked), right.of(asked));
                return compared == "<=>".indexOf(sign) - 1 ? 1 : 0;
            };
        }

        private Ask sum() {
            Ask sum = product();
            while (is("+", "-")) {
                IntBinaryOperator by = is("+") ? (l, r) -> l + r : (l, r) -> l - r;
                step();
                Ask left = sum;
                Ask right = product();
                sum = asked -> by.applyAsInt(left.of(asked), right.of(asked));
            }
            return sum;
        }

        private Ask product() {
            Ask product = unit();
            while (is("*", "/")) {
                boolean times = is("*");
                step();
                Ask left = product;
                if (times) {
                    Ask right = unit();
                    product = asked -> left.of(asked) * right.of(asked);
                } else {
                    int part = number(1, 9999);
                    product = asked -> left.of(asked) / part;
                }
            }
            return product;
        }

        private Ask unit() {
            if (token.text.matches("[0-9]{1,4}")) {
                int value = number(0, 9999);
                return asked -> value;
            }
            String word = expect("mark", "air", "jump", "hiss", "beats", "left", "sound", "place", "knew");
            return asked -> asked.get(word);
        }
    }

    int fault(int what) {
        return what == 0 ? fault : what == 1 ? faultPlace : NONE;
    }

    private int of(int k, String word) {
        int without = word.equals("width") ? 5 : word.equals("speed") ? 100 : 0;
        return machines.getOrDefault(k, Map.of()).getOrDefault(word, without);
    }

    int machine(int k, int what) {
        return k < 0 || k > 5 || what < 0 || what > 7 ? NONE : of(k, MACHINE_WORDS.get(what));
    }

    private List<List<Place>> made(int k) {
        List<List<Place>> both = blankTapes();
        Map<String, Integer> now = new HashMap<>(Map.of("machine", 0, "tape", 0, "at", 0, "room", 0,
                "second", 0, "talk", 1));
        for (Act act : stories.getOrDefault(k, List.of())) {
            if (now.containsKey(act.word)) {
                now.put(act.word, act.a);
            } else if (act.word.equals("cut")) {
                cut(both.get(now.get("tape")), now.get("at"), act.a);
            } else {
                goOver(both, act, now);
            }
        }
        return both;
    }

    private static void cut(List<Place> tape, int at, int n) {
        for (int i = 0; i < n && at + i < 300; i++) {
            tape.remove(at);
            tape.add(new Place());
        }
        if (at < 300 && tape.get(at).width > 0) {
            tape.get(at).joined = true;
        }
    }

    private void goOver(List<List<Place>> both, Act act, Map<String, Integer> now) {
        List<Place> tape = both.get(now.get("tape"));
        List<Place> other = both.get(1 - now.get("tape"));
        int by = now.get("machine");
        int from = now.get("at");
        int n = act.word.equals("copy") ? Math.min(act.b, 300 - act.a) : act.a;
        List<Place> gone = new ArrayList<>();
        for (int i = 0; i < n && from + i < 300; i++) {
            Place old = tape.get(from + i);
            Place made = new Place();
            int beat = of(by, "hum") == 1 ? hum(now.get("second")) : NONE;
            made.first = beat == NONE ? null : (Integer) Math.min(63, beat * 100 / of(by, "speed"));
            made.hiss = of(by, "hiss");
            made.left = old.width > of(by, "width") ? old.sound : 0;
            made.width = of(by, "width");
            if (act.word.equals("rec")) {
                made.sound = now.get("talk");
                made.air = now.get("room");
                made.happened = old.width == 0 ? 0 : 2;
            } else if (act.word.equals("erase")) {
                made.happened = 1;
            } else {
                Place source = other.get(act.a + i);
                made.sound = source.sound;
                made.air = source.air;
                made.second = source.first == null ? null : made.first;
                made.first = source.first == null ? made.first : source.first;
                made.hiss = Math.min(99, made.hiss + source.hiss);
                made.happened = 3;
            }
            tape.set(from + i, made);
            gone.add(made);
            now.merge("second", 1, Integer::sum);
        }
        if (!gone.isEmpty()) {
            gone.get(0).mark = of(by, act.word.equals("erase") ? "wipe" : "start");
            gone.get(gone.size() - 1).mark = of(by, act.word.equals("erase") ? "lift" : "stop");
        }
        now.put("at", from + gone.size());
    }

    int run(int k) {
        if (k < 0 || k > 5) {
            return NONE;
        }
        tapes = made(k);
        lastRun = k;
        return look(1) + look(2);
    }

    private static int orNone(Integer value) {
        return value == null ? NONE : value;
    }

    private static int[] things(Place p) {
        return new int[] {p.sound, orNone(p.air), orNone(p.first), orNone(p.second), p.hiss, p.mark, p.left, p.width,
            p.happened, p.joined ? 1 : 0};
    }

    int at(int tape, int place, int what) {
        if (!piece(tape, place, place) || what < 0 || what > 9) {
            return NONE - 1;
        }
        return things(tapes.get(tape).get(place))[what];
    }

    private static boolean piece(int tape, int a, int b) {
        return (tape == 0 || tape == 1) && 0 <= a && a <= b && b <= 299;
    }

    boolean heard(int tape, int place, int what, int v) {
        if (!piece(tape, place, place) || what < 0 || what > 6 || tapes.get(tape).get(place).width == 0) {
            return false;
        }
        int least = what >= 1 && what <= 3 ? -1 : 0;
        int most = what == 1 ? 9 : what == 2 || what == 3 ? 63 : 99;
        if (v < least || v > most) {
            return false;
        }
        Place told = tapes.get(tape).get(place).copy();
        Integer value = v == NONE ? null : (Integer) v;
        switch (what) {
            case 0 -> told.sound = v;
            case 1 -> told.air = value;
            case 2 -> told.first = value;
            case 3 -> told.second = value;
            case 4 -> told.hiss = v;
            case 5 -> told.mark = v;
            default -> told.left = v;
        }
        if (told.first == null && told.second != null) {
            return false;
        }
        tapes.get(tape).set(place, told);
        return true;
    }

    private static int pick(List<Integer> found, int what) {
        if (what == 0) {
            return found.size();
        }
        return what < 0 || what > found.size() ? NONE : found.get(what - 1);
    }

    int marks(int tape, int a, int b, int what) {
        if (!piece(tape, a, b)) {
            return NONE;
        }
        List<Integer> found = new ArrayList<>();
        for (int i = a; i <= b; i++) {
            if (tapes.get(tape).get(i).mark > 0) {
                found.add(i);
            }
        }
        return pick(found, what);
    }

    int settings(int tape, int a, int b) {
        if (!piece(tape, a, b) || b - a + 1 > 40) {
            return NONE;
        }
        StringBuilder colours = new StringBuilder();
        for (int i = a; i <= b; i++) {
            Place p = tapes.get(tape).get(i);
            if (p.width == 0) {
                return NONE;
            }
            char colour = (char) ('A' + p.width + (p.sound > 0 ? 10 : 0));
            if (colours.length() == 0 || colours.charAt(colours.length() - 1) != colour) {
                colours.append(colour);
            }
        }
        return strokes(colours.toString(), new HashMap<>());
    }

    /** A row without neighbours alike: the last stroke that the last place shares ends at some earlier one of its colour. */
    private static int strokes(String row, Map<String, Integer> known) {
        if (row.isEmpty()) {
            return 0;
        }
        if (!known.containsKey(row)) {
            int last = row.length() - 1;
            int least = 1 + strokes(row.substring(0, last), known);
            for (int i = 0; i < last; i++) {
                if (row.charAt(i) == row.charAt(last)) {
                    int split = strokes(row.substring(0, i + 1), known) + strokes(row.substring(i + 1, last), known);
                    least = Math.min(least, split);
                }
            }
            known.put(row, least);
        }
        return known.get(row);
    }

    private int weight(int tape, int a, int b, int k) {
        Set<Integer> own = new HashSet<>();
        for (int what = 0; what < 4; what++) {
            own.add(machine(k, what));
        }
        int weight = 1;
        for (int i = 1; i <= 8 && marks(tape, a, b, i) != NONE; i++) {
            weight *= own.contains(tapes.get(tape).get(marks(tape, a, b, i)).mark) ? 5 : 1;
        }
        return weight;
    }

    int which(int tape, int a, int b, int machine, int what) {
        if (!piece(tape, a, b) || machine < 0 || machine > 5 || what < 0 || what > 1) {
            return NONE;
        }
        long all = 0;
        for (int k = 0; k < 6; k++) {
            all += weight(tape, a, b, k);
        }
        int own = weight(tape, a, b, machine);
        return what == 1 ? own : (int) (1000L * own / all);
    }

    /** OFF at t, or NONE if not all seconds are there. */
    private int off(int tape, int a, int b, int row, int speed, int t) {
        if (t < 0 || (long) t + (b - a) >= hum.size()) {
            return NONE;
        }
        int off = 0;
        for (int i = a; i <= b; i++) {
            Place p = tapes.get(tape).get(i);
            Integer beat = row == 0 ? p.first : p.second;
            off += beat == null ? 0 : Math.abs(beat * speed / 100 - hum.get(t + i - a));
        }
        return off;
    }

    int slide(int tape, int a, int b, int row, int speed, int doubt, int what) {
        if (!piece(tape, a, b) || row < 0 || row > 1 || speed < 50 || speed > 150 || doubt < 0 || doubt > 9999
                || off(tape, a, b, row, speed, 0) == NONE) {
            return NONE;
        }
        List<Integer> offs = new ArrayList<>();
        for (int t = 0; off(tape, a, b, row, speed, t) != NONE; t++) {
            offs.add(off(tape, a, b, row, speed, t));
        }
        int least = offs.stream().mapToInt(i -> i).min().orElseThrow();
        int fits = (int) offs.stream().filter(o -> o <= doubt).count();
        switch (what) {
            case 0:
                return fits;
            case 1:
                for (int t = 0; t < offs.size(); t++) {
                    if (offs.get(t) <= doubt) {
                        return t;
                    }
                }
                return NONE;
            case 2:
                return offs.indexOf(least);
            case 3:
                return least;
            default:
                return NONE;
        }
    }

    int need(int tape, int a, int b, int doubt) {
        if (!piece(tape, a, b) || doubt < 0 || doubt > 9999) {
            return NONE;
        }
        for (int n = 1; a + n - 1 <= b; n++) {
            if (slide(tape, a, a + n - 1, 0, 100, doubt, 0) == 1) {
                return n;
            }
        }
        return NONE;
    }

    int speeds(int tape, int a, int b, int t, int doubt, int what) {
        if (!piece(tape, a, b) || doubt < 0 || doubt > 9999 || what < 0 || what > 2
                || off(tape, a, b, 0, 100, t) == NONE) {
            return NONE;
        }
        TreeSet<Integer> found = new TreeSet<>();
        for (int speed = 50; speed <= 150; speed++) {
            if (off(tape, a, b, 0, speed, t) <= doubt) {
                found.add(speed);
            }
        }
        if (what == 0) {
            return found.size();
        }
        return found.isEmpty() ? NONE : what == 1 ? found.first() : found.last();
    }

    private int jump(int tape, int place) {
        if (place == 0) {
            return 0;
        }
        Integer own = tapes.get(tape).get(place).first;
        Integer ahead = tapes.get(tape).get(place - 1).first;
        return own == null || ahead == null ? 0 : Math.abs(own - ahead);
    }

    int joins(int tape, int a, int b, int bound, int what) {
        if (!piece(tape, a, b) || bound < 0 || bound > 63) {
            return NONE;
        }
        List<Integer> found = new ArrayList<>();
        for (int i = a + 1; i <= b; i++) {
            Integer own = tapes.get(tape).get(i).air;
            Integer ahead = tapes.get(tape).get(i - 1).air;
            if (own != null && ahead != null && !own.equals(ahead) || jump(tape, i) > bound) {
                found.add(i);
            }
        }
        return pick(found, what);
    }

    int through(int tape, int a, int b) {
        if (!piece(tape, a, b)) {
            return NONE;
        }
        List<Place> places = tapes.get(tape).subList(a, b + 1);
        boolean within = b - a >= 2 && marks(tape, a + 1, b - 1, 0) > 0;
        if (joins(tape, a, b, 1, 0) > 0 || within || places.stream().anyMatch(p -> p.width == 0)) {
            return 0;
        }
        return places.stream().allMatch(p -> p.air != null && p.first != null) ? 2 : 1;
    }

    boolean pedal(int mark, int v) {
        if (mark == 0) {
            pedals.clear();
            hold = 300;
            return true;
        }
        if (mark == NONE) {
            boolean fine = v >= 1 && v <= 300;
            hold = fine ? v : hold;
            return fine;
        }
        return mark >= 1 && mark <= 99 && pedals.size() < 8 && pedals.add(mark);
    }

    int could(int tape, int a, int b, int what) {
        if (!piece(tape, a, b) || what < 0 || what > 1) {
            return NONE;
        }
        Set<Integer> lacking = new TreeSet<>();
        StringBuilder silences = new StringBuilder();
        for (int i = a; i <= b; i++) {
            Place p = tapes.get(tape).get(i);
            lacking.add(p.mark);
            silences.append(p.width > 0 && p.sound == 0 ? 's' : ' ');
        }
        lacking.remove(0);
        lacking.removeAll(pedals);
        if (what == 1) {
            return lacking.size();
        }
        return lacking.isEmpty() && silences.indexOf("s".repeat(hold + 1)) < 0 ? 1 : 0;
    }

    int alike(int tape, int k, int what) {
        if (tape < 0 || tape > 1 || what < 0 || what > 1 || what == 0 && (k < 0 || k > 5)) {
            return NONE;
        }
        if (what == 0) {
            int same = 0;
            List<Place> trial = made(k).get(tape);
            for (int i = 0; i < 300; i++) {
                for (int thing = 0; thing < 7; thing++) {
                    same += things(trial.get(i))[thing] == things(tapes.get(tape).get(i))[thing] ? 1 : 0;
                }
            }
            return same;
        }
        int best = 0;
        long most = Long.MIN_VALUE;
        for (int i = 0; i < 6; i++) {
            long worth = 100L * alike(tape, i, 0) - stories.getOrDefault(i, List.of()).size();
            if (worth > most) {
                best = i;
                most = worth;
            }
        }
        return best;
    }

    int says(int reader, int tape, int place, boolean knew) {
        if (reader < 0 || reader > 3 || !piece(tape, place, place)) {
            return NONE;
        }
        Place p = tapes.get(tape).get(place);
        Map<String, Integer> asked = new HashMap<>();
        asked.put("mark", p.mark);
        asked.put("air", p.air == null ? 0 : p.air + 1);
        asked.put("jump", jump(tape, place));
        asked.put("hiss", p.hiss);
        asked.put("beats", (p.first == null ? 0 : 1) + (p.second == null ? 0 : 1));
        asked.put("left", p.left);
        asked.put("sound", p.sound);
        asked.put("place", place);
        asked.put("knew", knew ? 1 : 0);
        for (Line line : readers.getOrDefault(reader, List.of())) {
            if (line.when.of(asked) == 1) {
                return line.answer;
            }
        }
        return 0;
    }

    int reader(int reader, int tape, int a, int b, int what) {
        if (reader < 0 || reader > 3 || !piece(tape, a, b) || what < 0 || what > 2) {
            return NONE;
        }
        int count = 0;
        for (int i = a; i <= b; i++) {
            Place p = tapes.get(tape).get(i);
            int truth = p.joined ? 2 : p.happened == 1 ? 1 : p.happened == 3 ? 3 : 4;
            boolean counts = what == 2
                    ? says(reader, tape, i, true) != says(reader, tape, i, false)
                    : says(reader, tape, i, what == 1) == truth;
            count += p.width > 0 && counts ? 1 : 0;
        }
        return count;
    }

    int look(int what) {
        int[] full = new int[2];
        int left = 0;
        int copied = 0;
        for (int t = 0; t < 2; t++) {
            for (Place p : tapes.get(t)) {
                full[t] += p.width > 0 ? 1 : 0;
                left += p.left > 0 ? 1 : 0;
                copied += p.happened == 3 ? 1 : 0;
            }
        }
        int[] answers = {hum.size(), full[0], full[1], lastRun, left, copied};
        return what < 0 || what > 5 ? NONE : answers[what];
    }
}
