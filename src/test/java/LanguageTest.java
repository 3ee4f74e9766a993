import java.lang.reflect.Constructor;
import java.lang.reflect.Field;
import java.lang.reflect.Method;
import java.lang.reflect.Modifier;
import java.nio.file.Files;
import java.nio.file.Path;
import java.util.Arrays;
import java.util.List;
import java.util.Set;
import java.util.TreeSet;
import java.util.regex.Matcher;
import java.util.regex.Pattern;

/** The rules of LANGUAGE.md that can be looked at from outside. */
public final class LanguageTest {
    private static final Check CHECK = new Check("LanguageTest");
    private static final Set<String> FACE = new TreeSet<>(List.of(
            "int state(int)", "int beats(int,int)", "int drawn(int)", "int hum(int)", "int feed(int,int,int,int,int)",
            "boolean end(int)", "int text(int,int)", "int fault(int)", "int machine(int,int)", "int run(int)",
            "int at(int,int,int)", "boolean heard(int,int,int,int)", "int marks(int,int,int,int)",
            "int settings(int,int,int)", "int which(int,int,int,int,int)", "int slide(int,int,int,int,int,int,int)",
            "int need(int,int,int,int)", "int speeds(int,int,int,int,int,int)", "int joins(int,int,int,int,int)",
            "int through(int,int,int)", "boolean pedal(int,int)", "int could(int,int,int,int)",
            "int alike(int,int,int)", "int says(int,int,int,boolean)", "int reader(int,int,int,int,int)",
            "int look(int)"));

    public static void main(String[] args) throws Exception {
        face();
        Class<?>[] inside = HumTape.class.getDeclaredClasses();
        CHECK.due("at most twelve classes", true, inside.length + 1 <= 12);
        shape(HumTape.class);
        for (Class<?> c : inside) {
            CHECK.due(c + " is static", true, Modifier.isStatic(c.getModifiers()));
            CHECK.due(c + " is not public or protected", false,
                    (c.getModifiers() & (Modifier.PUBLIC | Modifier.PROTECTED)) != 0);
            shape(c);
        }
        source();
        CHECK.finish();
    }

    private static void face() {
        CHECK.due("public and final", Modifier.PUBLIC | Modifier.FINAL, HumTape.class.getModifiers());
        Set<String> found = new TreeSet<>();
        for (Method m : HumTape.class.getDeclaredMethods()) {
            if (!Modifier.isPrivate(m.getModifiers())) {
                CHECK.due(m + " is plainly public", Modifier.PUBLIC, m.getModifiers());
                String types = Arrays.toString(m.getParameterTypes()).replaceAll("[\\[\\] ]", "");
                found.add(m.getReturnType() + " " + m.getName() + "(" + types + ")");
            }
        }
        CHECK.due("the face: " + found, true, found.equals(FACE));
        Constructor<?>[] made = HumTape.class.getDeclaredConstructors();
        CHECK.due("one constructor", 1, made.length);
        CHECK.due("it is public", Modifier.PUBLIC, made[0].getModifiers());
        CHECK.due("it takes nothing", 0, made[0].getParameterCount());
        int constants = 0;
        for (Field f : HumTape.class.getDeclaredFields()) {
            if (!Modifier.isPrivate(f.getModifiers())) {
                constants++;
                CHECK.due(f + " is NONE", true, f.getName().equals("NONE"));
            }
        }
        CHECK.due("one constant", 1, constants);
    }

    private static void shape(Class<?> c) {
        int fields = 0;
        for (Field f : c.getDeclaredFields()) {
            boolean isStatic = Modifier.isStatic(f.getModifiers());
            CHECK.due(f + " is final if static", true, !isStatic || Modifier.isFinal(f.getModifiers()));
            fields += isStatic ? 0 : 1;
        }
        CHECK.due(c + " has at most twenty fields", true, fields <= 20);
        for (Method m : c.getDeclaredMethods()) {
            CHECK.due(m + " has at most seven parameters", true, m.getParameterCount() <= 7);
            boolean isFace = c == HumTape.class && Modifier.isPublic(m.getModifiers());
            boolean named = FACE.stream().anyMatch(f -> f.contains(" " + m.getName() + "("));
            CHECK.due(m + " bears no public one's name", true, isFace || !named);
        }
    }

    private static void source() throws Exception {
        String text = Files.readString(Path.of("src/main/java/HumTape.java"));
        CHECK.due("signs of the source are 10 and 32 .. 126", true, text.matches("[\\n -~]*"));
        String code = text.replaceAll("(?s)/\\*.*?\\*/", " ").replaceAll("//[^\\n]*", " ")
                .replaceAll("\"[^\"\\n]*\"", "\"\"").replaceAll("'(\\\\.|[^'\\\\])'", "' '");
        String[] forbidden = {"throw", "throws", "try", "catch", "finally", "synchronized", "assert", "package", "double",
            "float", "goto", "var", "yield", "native", "volatile", "transient", "protected"};
        for (String word : forbidden) {
            CHECK.due("the source has no " + word, false, Pattern.compile("\\b" + word + "\\b").matcher(code).find());
        }
        for (String sign : new String[] {"->", "::", "@", "static {"}) {
            CHECK.due("the source has no " + sign, false, code.contains(sign));
        }
        CHECK.due("no texts joined by +", false, code.contains("\" +") || code.contains("+ \""));
        Matcher imports = Pattern.compile("import [^;]*;").matcher(code);
        while (imports.find()) {
            CHECK.due(imports.group(), true, imports.group().equals("import java.util.Arrays;"));
        }
        Matcher calls = Pattern.compile("\\b(Math|Arrays|System|Integer|Long)\\.(\\w+)").matcher(code);
        Set<String> library = Set.of("Math.max", "Math.min", "Math.abs", "Arrays.fill", "System.arraycopy");
        while (calls.find()) {
            CHECK.due(calls.group(), true, library.contains(calls.group()));
        }
        methodLengths(code);
    }

    private static void methodLengths(String code) {
        String[] lines = code.split("\n");
        for (int i = 0; i < lines.length; i++) {
            if (lines[i].matches(" +[\\w\\[\\] ]+\\(.*\\{") && !lines[i].matches(" +(if|for|while|switch|else)\\b.*")) {
                String indent = lines[i].replaceAll("\\S.*", "");
                int end = i;
                while (end < lines.length && !lines[end].equals(indent + "}")) {
                    end++;
                }
                CHECK.due("at most sixty lines:" + lines[i], true, end - i < 60);
            }
        }
    }
}
