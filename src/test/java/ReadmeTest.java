import java.lang.reflect.InvocationTargetException;
import java.lang.reflect.Method;
import java.lang.reflect.Modifier;
import java.nio.file.Files;
import java.nio.file.Path;
import java.util.List;
import java.util.regex.Matcher;
import java.util.regex.Pattern;

/** The examples of README.md are run from top to bottom; it names every call of the face. */
public final class ReadmeTest {
    private static final Check check = new Check();
    private static final Pattern CALL =
            Pattern.compile("(?:x\\.(\\w+)\\(([^\"]*)\\)|tell\\(x, \"(.*)\"\\)); *// (\\S+?)(?:[:;] .*)?");
    private static SandMarch x = null;
    private static int ran = 0;

    public static void main(String[] args) throws Exception {
        List<String> lines = Files.readAllLines(Path.of("README.md"));
        examples(lines);
        everyCallIsNamed(String.join("\n", lines));
        tellAsWritten(lines);
        longTexts();
        check.finish("ReadmeTest");
    }

    static int tell(SandMarch x, String text) {
        if (text.length() > 900) {
            return SandMarch.NONE;
        }
        x.end(0);
        for (int at = 0; at < text.length(); at += 20) {
            int[] five = new int[5];
            for (int i = 0; i < 20 && at + i < text.length(); i++) {
                five[i / 4] |= (text.charAt(at + i) & 255) << 24 - i % 4 * 8;
            }
            x.feed(five[0], five[1], five[2], five[3], five[4]);
        }
        x.end(text.length());
        return x.field();
    }

    private static void examples(List<String> lines) throws Exception {
        boolean inBlock = false;
        for (String line : lines) {
            if (line.startsWith("```")) {
                inBlock = line.equals("```java");
            } else if (inBlock && line.equals("SandMarch x = new SandMarch();")) {
                x = new SandMarch();
            } else if (inBlock && (line.startsWith("x.") || line.startsWith("tell("))) {
                example(line);
            }
        }
        check.due("many examples", ran > 80, true);
        check.due("few enough for one object", ran < 400, true);
    }

    private static void example(String line) throws Exception {
        ran++;
        Matcher parts = CALL.matcher(line);
        boolean understood = parts.matches() && x != null;
        check.due("understood: " + line, understood, true);
        if (!understood) {
            return;
        }
        Object answer = parts.group(3) != null ? tell(x, parts.group(3)) : answer(parts.group(1), parts.group(2));
        String want = parts.group(4).equals("NONE") ? "-1" : parts.group(4);
        check.due(line + " answered " + answer, answer.toString().equals(want), true);
    }

    private static Object answer(String name, String list) throws IllegalAccessException, InvocationTargetException {
        String[] words = list.isEmpty() ? new String[0] : list.split(", ");
        Method method = named(name);
        Class<?>[] types = method.getParameterTypes();
        Object[] values = new Object[words.length];
        for (int i = 0; i < words.length; i++) {
            values[i] = types[i] == boolean.class ? (Object) Boolean.valueOf(words[i]) : Integer.valueOf(words[i]);
        }
        return method.invoke(x, values);
    }

    private static Method named(String name) {
        for (Method method : SandMarch.class.getDeclaredMethods()) {
            if (Modifier.isPublic(method.getModifiers()) && method.getName().equals(name)) {
                return method;
            }
        }
        throw new IllegalStateException("no call of the name " + name);
    }

    private static void everyCallIsNamed(String page) {
        for (Method method : SandMarch.class.getDeclaredMethods()) {
            if (Modifier.isPublic(method.getModifiers())) {
                check.due(method.getName() + " is told", page.contains("`" + method.getName() + "("), true);
                check.due(method.getName() + " is shown", page.contains("x." + method.getName() + "("), true);
            }
        }
    }

    /** The page's own code is the one that this test runs. */
    private static void tellAsWritten(List<String> lines) throws Exception {
        int first = lines.indexOf("static int tell(SandMarch x, String text) {");
        check.due("tell is on the page", first >= 0, true);
        StringBuilder code = new StringBuilder();
        for (int i = Math.max(first, 0); i < lines.size() && !lines.get(i).startsWith("```"); i++) {
            code.append("    ").append(lines.get(i)).append("\n");
        }
        String source = Files.readString(Path.of("src/test/java/ReadmeTest.java"));
        check.due("tell is the same here", first >= 0 && source.contains(code), true);
    }

    private static void longTexts() {
        for (int length = 880; length <= 900; length++) {
            SandMarch y = new SandMarch();
            String text = "sand 5;" + " ".repeat(length - 14) + "hop 07;";
            check.due("field of " + length + " bytes", tell(y, text), -1);
            check.due("fault(0) of " + length + " bytes", y.fault(0), 4);
            check.due("fault(1) of " + length + " bytes", y.fault(1), length - 3);
        }
    }
}
