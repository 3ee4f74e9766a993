import java.util.ArrayDeque;
import java.util.HashMap;
import java.util.Map;

/** Promise 15: settings, against all strokes tried out on short rows. */
public final class StrokesTest {
    private static final int LENGTH = 6;
    private static final int COLOURS = 4;
    private static final String[] STROKES = {"machine 0;rec 1;", "machine 0;erase 1;", "machine 1;rec 1;",
        "machine 1;erase 1;"};

    public static void main(String[] args) {
        Check check = new Check("StrokesTest");
        for (int length = 1; length <= LENGTH; length++) {
            Map<String, Integer> fewest = allRows(length);
            for (Map.Entry<String, Integer> row : fewest.entrySet()) {
                if (row.getKey().indexOf('.') < 0) {
                    check.due("settings of " + row.getKey(), row.getValue(), settings(row.getKey()));
                }
            }
        }
        check.finish();
    }

    /** The fewest strokes for each row of colours a, b, .. and places without one (.). */
    private static Map<String, Integer> allRows(int length) {
        Map<String, Integer> fewest = new HashMap<>();
        ArrayDeque<String> waiting = new ArrayDeque<>();
        fewest.put(".".repeat(length), 0);
        waiting.add(".".repeat(length));
        while (!waiting.isEmpty()) {
            String row = waiting.remove();
            for (int from = 0; from < length; from++) {
                for (int behind = from + 1; behind <= length; behind++) {
                    for (int colour = 0; colour < COLOURS; colour++) {
                        String stroke = ("" + (char) ('a' + colour)).repeat(behind - from);
                        String then = row.substring(0, from) + stroke + row.substring(behind);
                        if (!fewest.containsKey(then)) {
                            fewest.put(then, fewest.get(row) + 1);
                            waiting.add(then);
                        }
                    }
                }
            }
        }
        return fewest;
    }

    private static int settings(String row) {
        HumTape x = new HumTape();
        Check.machine(x, 1, "width 2;");
        StringBuilder story = new StringBuilder();
        for (int i = 0; i < row.length(); i++) {
            story.append(STROKES[row.charAt(i) - 'a']);
        }
        Check.story(x, 0, story.toString());
        x.run(0);
        return x.settings(0, 0, row.length() - 1);
    }
}
