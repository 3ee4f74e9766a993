import java.lang.reflect.Method;
import java.lang.reflect.Modifier;
import java.nio.file.Files;
import java.nio.file.Path;
import java.util.regex.Matcher;
import java.util.regex.Pattern;

/** README.md: its example is called line by line, and a comment that begins with a number tells the answer due. */
public final class ReadmeTest {
    private static final Check CHECK = new Check("ReadmeTest");
    private static final Pattern CALL = Pattern.compile("x\\.(\\w+)\\(([^)]*)\\); *(?:// (-?\\d+)\\b.*)?");

    public static void main(String[] args) throws Exception {
        String text = Files.readString(Path.of("README.md"));
        int from = text.indexOf("```java\n");
        CHECK.due("an example", true, from >= 0);
        String example = text.substring(from + 8, text.indexOf("```\n", from + 8));
        HumTape x = new HumTape();
        for (String line : example.split("\n")) {
            Matcher call = CALL.matcher(line);
            if (call.matches()) {
                ask(x, line, call.group(1), call.group(2).split(", *"), call.group(3));
            } else {
                boolean known = line.startsWith("//") || line.equals("HumTape x = new HumTape();");
                CHECK.due("a line that can be called: " + line, true, known);
            }
        }
        for (Method m : HumTape.class.getDeclaredMethods()) {
            if (Modifier.isPublic(m.getModifiers())) {
                CHECK.due(m.getName() + " is named", true, text.contains("`" + m.getName() + "`"));
            }
        }
        for (Path test : Files.newDirectoryStream(Path.of("src/test/java"), "*Test.java")) {
            String name = test.getFileName().toString().replace(".java", "");
            CHECK.due(name + " is named", true, text.contains("| `" + name + "` |"));
        }
        CHECK.finish();
    }

    /** A call that answers whether it could must have been able to; without a number only that. */
    private static void ask(HumTape x, String line, String name, String[] words, String due) throws Exception {
        for (Method m : HumTape.class.getDeclaredMethods()) {
            if (m.getName().equals(name) && m.getParameterCount() == words.length) {
                Object[] values = new Object[words.length];
                for (int i = 0; i < words.length; i++) {
                    boolean flag = m.getParameterTypes()[i] == boolean.class;
                    values[i] = flag ? (Object) Boolean.valueOf(words[i]) : (Object) Integer.decode(words[i]);
                }
                Object answer = m.invoke(x, values);
                String want = due != null ? due : answer instanceof Boolean ? "true" : answer.toString();
                CHECK.due(line + " answered " + answer, true, answer.toString().equals(want) && !want.equals("-1"));
                return;
            }
        }
        CHECK.due("a call of the class: " + line, true, false);
    }
}
