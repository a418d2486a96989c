import java.io.IOException;
import java.lang.management.ManagementFactory;
import java.lang.reflect.Constructor;
import java.lang.reflect.Field;
import java.lang.reflect.Method;
import java.lang.reflect.Modifier;
import java.nio.file.Files;
import java.nio.file.Path;
import java.util.ArrayList;
import java.util.Arrays;
import java.util.List;
import java.util.Set;
import java.util.TreeSet;
import java.util.regex.Matcher;
import java.util.regex.Pattern;

/** The face of the class, the rules of LANGUAGE.md that can be seen from outside, and the room that calls take. */
public final class LanguageTest {
    private static final String[] FACE = {"feed long int", "church", "set int int", "lawOf int", "child int int int int",
        "of int int", "does int int", "mind int int int", "change int int int", "swear int int", "vice int int",
        "easy int int", "godmother int int", "years int", "seed int", "year", "luck int", "state int", "becomes int int",
        "suited int", "grown", "far int int", "swearFor int int", "kindFor int int", "fireFor int int", "best int",
        "enough int", "fits int int int", "odds int int int", "hope int int", "prove int int", "row int int",
        "alterRow int int int", "judge int", "minds int int int int", "sheet int int int", "put int int int",
        "item int int int", "shelf int int int", "taken int int", "act int int int", "trace int", "many int", "keep",
        "again"};
    private static int wrong = 0;

    private static void must(boolean holds, String what) {
        if (holds) return;
        wrong++;
        System.out.println("not as told: " + what);
    }

    public static void main(String[] args) throws IOException {
        face();
        for (Class<?> c : classes()) shape(c);
        must(classes().size() <= 12, "twelve classes at most, not " + classes().size());
        source(Files.readString(Path.of(args.length > 0 ? args[0] : "src/main/java/BoundGodmothers.java")));
        room();
        System.out.println(wrong == 0 ? "the language is kept to" : wrong + " rules are not kept to");
        if (wrong != 0) System.exit(1);
    }

    private static List<Class<?>> classes() {
        List<Class<?>> all = new ArrayList<>();
        all.add(BoundGodmothers.class);
        all.addAll(Arrays.asList(BoundGodmothers.class.getDeclaredClasses()));
        return all;
    }

    private static void face() {
        Class<?> c = BoundGodmothers.class;
        must(Modifier.isPublic(c.getModifiers()) && Modifier.isFinal(c.getModifiers()), "public and final");
        Set<String> due = new TreeSet<>(Arrays.asList(FACE));
        Set<String> got = new TreeSet<>();
        for (Method m : c.getDeclaredMethods()) {
            if (Modifier.isPublic(m.getModifiers())) {
                StringBuilder told = new StringBuilder(m.getName());
                for (Class<?> p : m.getParameterTypes()) told.append(' ').append(p.getName());
                got.add(told.toString());
                boolean isLong = m.getName().equals("odds") || m.getName().equals("hope");
                must(m.getReturnType() == (isLong ? long.class : int.class), "what " + m.getName() + " answers");
                must(!Modifier.isStatic(m.getModifiers()), m.getName() + " is of an object");
            } else {
                must(Modifier.isPrivate(m.getModifiers()), m.getName() + " is private");
            }
        }
        must(due.equals(got), "the methods " + got);
        for (Field f : c.getDeclaredFields()) {
            boolean isFace = Set.of("BAD", "FULL", "NONE").contains(f.getName());
            must(isFace ? Modifier.isPublic(f.getModifiers()) : Modifier.isPrivate(f.getModifiers()), f.getName());
        }
        for (Constructor<?> k : c.getDeclaredConstructors()) {
            must(Modifier.isPublic(k.getModifiers()) && k.getParameterCount() == 0, "the constructor");
        }
        for (Class<?> inner : c.getDeclaredClasses()) {
            must(Modifier.isStatic(inner.getModifiers()), inner + " is static");
            must(!Modifier.isPublic(inner.getModifiers()) && !Modifier.isProtected(inner.getModifiers()), inner + " is hidden");
        }
    }

    private static void shape(Class<?> c) {
        Set<String> names = new TreeSet<>();
        for (String told : FACE) names.add(told.split(" ")[0]);
        for (Method m : c.getDeclaredMethods()) {
            must(m.getParameterCount() <= 7, m + " takes seven at most");
            must(Modifier.isPublic(m.getModifiers()) || !names.contains(m.getName()), m + " bears the name of a public one");
            must(!m.isSynthetic(), m + " is written out");
        }
        int fields = 0;
        for (Field f : c.getDeclaredFields()) {
            if (!Modifier.isStatic(f.getModifiers())) {
                fields++;
                continue;
            }
            must(Modifier.isFinal(f.getModifiers()), f + " is final");
            must(Set.of(int.class, long.class, boolean.class, char.class, String.class, int[].class).contains(f.getType()), f + "");
        }
        must(fields <= 20, c + " has twenty fields at most");
        must(c.getDeclaredClasses().length == 0 || c == BoundGodmothers.class, c + " has no classes inside");
    }

    private static void source(String text) {
        String code = text.replaceAll("(?s)/\\*.*?\\*/", "").replaceAll("//[^\n]*", "");
        for (String word : new String[] {"throw", "throws", "try", "catch", "finally", "synchronized", "assert", "import",
            "package", "Exact", "System", "double", "float", "native", "volatile", "goto"}) {
            must(!Pattern.compile("\\b" + word + "\\b").matcher(code).find(), "no " + word);
        }
        for (String sign : new String[] {"->", "::", "@", "\\u"}) must(!code.contains(sign), "no " + sign);
        must(code.chars().allMatch(c -> c == '\n' || c >= 32 && c < 127), "plain signs alone");
        Matcher called = Pattern.compile("\\b([A-Z][a-z]\\w*)\\.(\\w+)\\(").matcher(code);
        while (called.find()) {
            must(Set.of("Math.max", "Math.min", "Math.abs", "Integer.bitCount").contains(called.group(1) + "." + called.group(2)),
                "the library: " + called.group());
        }
        lengths(text);
        madeInConstructors(code);
    }

    private static void lengths(String text) {
        String[] lines = text.split("\n");
        for (int i = 0; i < lines.length; i++) {
            Matcher head = Pattern.compile("( {4}| {8})\\S.*\\) \\{").matcher(lines[i]);
            if (!head.matches()) continue;
            int end = i;
            while (!lines[end].equals(head.group(1) + "}")) end++;
            must(end - i < 60, "a method of " + (end - i) + " lines at line " + (i + 1));
        }
    }

    /** A line with 'new' must stand in a constructor, whose head is a name with a capital. */
    private static void madeInConstructors(String code) {
        String head = "";
        for (String line : code.split("\n")) {
            if (line.matches("( {4}| {8})\\S.*\\) \\{.*")) head = line;
            if (line.matches(".*\\bnew\\b.*")) must(head.matches(" +(public )?[A-Z]\\w*\\(.*"), "made outside a constructor: " + line.trim());
        }
    }

    private static long allocated() {
        return ((com.sun.management.ThreadMXBean) ManagementFactory.getThreadMXBean()).getThreadAllocatedBytes(Thread.currentThread().getId());
    }

    private static void room() {
        calls(new BoundGodmothers());
        allocated();
        BoundGodmothers x = new BoundGodmothers();
        long before = allocated();
        for (int i = 0; i < 10; i++) calls(x);
        long bytes = allocated() - before;
        must(bytes < 4096, "no call makes an object: " + bytes + " bytes");
        before = allocated();
        new BoundGodmothers();
        bytes = allocated() - before;
        must(bytes < 8192, "a new object is small: " + bytes + " bytes");
    }

    private static void calls(BoundGodmothers x) {
        x.feed(0x3b3220796c6961L, 7);
        x.church();
        for (int i = 0; i < 8; i++) x.child(i % 6, i, i, i);
        x.sheet(0, 0, 40);
        x.put(0, 1, 3);
        x.fits(0, 1, 0);
        x.minds(0, 0, 0, 8);
        x.best(30);
        x.enough(30);
        x.luck(30);
        x.year();
        x.years(60);
        x.kindFor(1, 30);
        x.swearFor(1, 30);
        x.fireFor(1, 30);
        x.suited(1);
        x.grown();
        x.odds(8, 4, 0);
        x.prove(1, 10);
        x.judge(1);
        x.shelf(0, 0, 4);
        x.shelf(1, 1, 0);
        x.act(0, 3, 9);
        x.keep();
        x.again();
    }
}
