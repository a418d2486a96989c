import java.io.IOException;
import java.lang.reflect.Method;
import java.lang.reflect.Modifier;
import java.nio.file.Files;
import java.nio.file.Path;
import java.util.Map;
import java.util.TreeMap;
import java.util.regex.Matcher;
import java.util.regex.Pattern;

/** The calls that README.md shows answer what it tells behind them, and it names every call of the face. */
public final class ReadmeTest {
    private static final Pattern CALL = Pattern.compile("church\\.(\\w+)\\(([-\\d, ]*)\\); *// (-?\\d+): .*");
    private static final Pattern TELL = Pattern.compile("tell\\(church, \"([^\"]*)\"\\); *// (-?\\d+): .*");
    private static final String NEW = "BoundGodmothers church = new BoundGodmothers();";
    private static int wrong = 0;
    private static int shown = 0;

    public static void main(String[] args) throws IOException, ReflectiveOperationException {
        String readme = Files.readString(Path.of("README.md"));
        Map<String, Method> face = face();
        BoundGodmothers church = null;
        for (String line : readme.split("\n")) {
            if (line.equals(NEW)) church = new BoundGodmothers();
            else if (line.startsWith("church.") || line.startsWith("tell(")) show(line, church, face);
        }
        for (String name : face.keySet()) must(readme.contains("`" + name + "`"), "README.md names " + name);
        must(shown > 20, "README.md shows calls");
        System.out.println(shown + " calls of README.md, " + wrong + " not as told");
        if (wrong != 0) System.exit(1);
    }

    private static void must(boolean holds, String what) {
        if (holds) return;
        wrong++;
        System.out.println("not as told: " + what);
    }

    private static Map<String, Method> face() {
        Map<String, Method> face = new TreeMap<>();
        for (Method m : BoundGodmothers.class.getDeclaredMethods()) {
            if (Modifier.isPublic(m.getModifiers())) face.put(m.getName(), m);
        }
        return face;
    }

    private static void show(String line, BoundGodmothers church, Map<String, Method> face) throws ReflectiveOperationException {
        shown++;
        Matcher call = CALL.matcher(line);
        Matcher tell = TELL.matcher(line);
        if (call.matches()) {
            Object got = answer(face.get(call.group(1)), church, call.group(2));
            must(call.group(3).equals(String.valueOf(got)), line + " answers " + got);
        } else if (tell.matches()) {
            int got = tell(church, tell.group(1));
            must(tell.group(2).equals(String.valueOf(got)), line + " answers " + got);
        } else {
            must(false, "a call with its answer: " + line);
        }
    }

    private static Object answer(Method method, BoundGodmothers church, String told) throws ReflectiveOperationException {
        if (method == null || church == null) return "nothing";
        String[] numbers = told.isEmpty() ? new String[0] : told.split(", ");
        Object[] values = new Object[numbers.length];
        for (int i = 0; i < values.length; i++) values[i] = Integer.valueOf(numbers[i]);
        return method.invoke(church, values);
    }

    /** As README.md writes it. */
    private static int tell(BoundGodmothers church, String text) {
        for (int i = 0; i < text.length(); i += 8) {
            int n = Math.min(8, text.length() - i);
            long eight = 0;
            for (int k = 0; k < n; k++) eight |= (long) text.charAt(i + k) << 8 * k;
            church.feed(eight, n);
        }
        return church.church();
    }
}
