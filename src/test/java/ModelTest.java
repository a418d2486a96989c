import java.lang.reflect.InvocationTargetException;
import java.lang.reflect.Method;
import java.lang.reflect.Modifier;
import java.math.BigInteger;
import java.util.ArrayList;
import java.util.Arrays;
import java.util.Comparator;
import java.util.List;
import java.util.Random;
import java.util.regex.Matcher;
import java.util.regex.Pattern;

/** Runs of 512 calls at random, each answer beside that of a slow model that is written from the document anew. */
public final class ModelTest {
    private static final int RUNS = 1000, CALLS = 512;

    public static void main(String[] args) throws ReflectiveOperationException {
        Method[] calls = Arrays.stream(BoundGodmothers.class.getDeclaredMethods())
            .filter(m -> Modifier.isPublic(m.getModifiers()))
            .sorted(Comparator.comparing(Method::getName)).toArray(Method[]::new);
        for (int run = 0; run < RUNS; run++) {
            String wrong = run(calls, new Random(run));
            if (wrong != null) {
                System.out.println("run " + run + ": " + wrong);
                System.exit(1);
            }
        }
        System.out.println(RUNS + " runs are as in the model");
    }

    private static String run(Method[] calls, Random random) throws ReflectiveOperationException {
        BoundGodmothers x = new BoundGodmothers();
        Model model = new Model();
        List<String> past = new ArrayList<>();
        for (int i = 0; i < CALLS; i++) {
            if (random.nextInt(100) == 0 || i == 0 && random.nextBoolean()) {
                String text = Texts.any(random);
                for (int k = 0; k < text.length() && i < CALLS; k += 8, i++) {
                    int n = Math.min(8, text.length() - k);
                    long eight = random.nextLong();
                    for (int j = n - 1; j >= 0; j--) eight = eight << 8 | text.charAt(k + j) & 255;
                    String wrong = same(calls, "feed", new Object[] {eight, n}, x, model, past);
                    if (wrong != null) return wrong;
                }
                String wrong = same(calls, "church", new Object[0], x, model, past);
                if (wrong != null) return wrong;
            }
            Method call = calls[random.nextInt(calls.length)];
            if (call.getName().equals("church") && random.nextInt(20) > 0) continue;
            if (call.getName().equals("feed") && random.nextInt(10) > 0) continue;
            Object[] given = given(call, random, model.many(0));
            String wrong = same(calls, call.getName(), given, x, model, past);
            if (wrong != null) return wrong;
        }
        return null;
    }

    /** Of each call how many values a number has that are as told, from 0 on; 'c' is one of the CHILDREN, '*' any int. */
    private static final String RANGES = "set 4 70;lawOf 4;child 6 100 10 8;of c 6;does c 2;mind c 6 10;change c 5 100;"
        + "swear c 8;vice 8 100;easy 8 2;godmother 8 3;years 9;seed *;luck 31;state 6;becomes c 61;suited c;far c 61;"
        + "swearFor c 31;kindFor c 31;fireFor c 31;best 31;enough 31;fits 4 c 2;odds 9 9 2;hope 100 2;prove c 11;"
        + "row 10 3;alterRow 10 3 100;judge c;minds 4 4 c 3;sheet 4 4 7;put 4 5 *;item 4 4 5;shelf 4 2 4;taken 4 14;"
        + "act 4 4 *;trace 12;many 7;feed * 9;";

    private static Object[] given(Method call, Random random, int children) {
        Matcher ranges = Pattern.compile("(^|;)" + call.getName() + " ([^;]*);").matcher(RANGES);
        String[] told = ranges.find() ? ranges.group(2).split(" ") : new String[0];
        Object[] given = new Object[call.getParameterCount()];
        boolean wild = random.nextInt(8) == 0;
        for (int k = 0; k < given.length; k++) {
            if (call.getParameterTypes()[k] == long.class) given[k] = random.nextLong();
            else if (wild || told[k].equals("*")) given[k] = any(random);
            else given[k] = random.nextInt(told[k].equals("c") ? Math.max(1, children) : Integer.parseInt(told[k]));
        }
        if (call.getName().equals("put") && random.nextBoolean()) given[2] = random.nextInt(120) - 20;
        return given;
    }

    private static Object any(Random random) {
        int[] edges = {Integer.MIN_VALUE, Integer.MAX_VALUE, -1, -2, 0, 4, 5, 6, 8, 9, 10, 14, 40, 41, 60, 61, 99, 100, 101};
        int pick = random.nextInt(4);
        return pick == 0 ? random.nextInt() : pick == 1 ? edges[random.nextInt(edges.length)] : random.nextInt(14) - 2;
    }

    private static String same(Method[] calls, String name, Object[] given, BoundGodmothers x, Model model, List<String> past)
        throws ReflectiveOperationException {
        Method call = Arrays.stream(calls).filter(m -> m.getName().equals(name)).findFirst().orElseThrow();
        Method due = Model.class.getDeclaredMethod(name, call.getParameterTypes());
        long want = ((Number) due.invoke(model, given)).longValue();
        String told = name + Arrays.toString(given);
        try {
            long got = ((Number) call.invoke(x, given)).longValue();
            past.add(told + " " + got);
            if (got == want) return null;
            return told + " answered " + got + ", due is " + want + "; behind " + past;
        } catch (InvocationTargetException e) {
            return told + " threw " + e.getCause() + "; behind " + past;
        }
    }

    /** Texts that are right, or nearly. */
    private static final class Texts {
        private static final String[] KINDS = {"child", "heir", "urchin", "curate", "reformer", "twin"};
        private static final String[] ODD = {";", "x", "to", "100", "0001", "  ", "is", "trait", "7", "\u00e9", "\0", "vice"};

        static String any(Random r) {
            StringBuilder text = new StringBuilder();
            int statements = r.nextInt(11);
            for (int i = 0; i < statements; i++) text.append(statement(r));
            if (r.nextInt(3) == 0) spoil(text, r);
            while (text.length() > 200) text.setLength(text.length() - 1);
            return text.toString();
        }

        private static void spoil(StringBuilder text, Random r) {
            int place = r.nextInt(text.length() + 1);
            int pick = r.nextInt(3);
            if (pick == 0) text.setLength(place);
            else if (pick == 1) text.insert(place, ODD[r.nextInt(ODD.length)]);
            else if (place < text.length()) text.deleteCharAt(place);
        }

        private static String gap(Random r) {
            return " ".repeat(r.nextInt(10) == 0 ? r.nextInt(3) : 1);
        }

        private static String statement(Random r) {
            switch (r.nextInt(8)) {
                case 0: return "vice " + r.nextInt(8) + gap(r) + "is" + gap(r) + r.nextInt(100) + ";";
                case 1: return "easy" + gap(r) + r.nextInt(8) + ";";
                case 2:
                    String law = new String[] {"piety", "slum", "room", "slip"}[r.nextInt(4)];
                    return law + gap(r) + r.nextInt(r.nextInt(30) == 0 ? 101 : 10) + gap(r) + ";";
                default:
                    return KINDS[r.nextInt(6)] + gap(r) + "to" + gap(r) + r.nextInt(8)
                        + option(r, "trait", 100) + option(r, "fire", 10) + option(r, "wish", 100) + option(r, "age", 30) + ";";
            }
        }

        private static String option(Random r, String name, int below) {
            return r.nextInt(4) > 0 ? "" : gap(r) + name + gap(r) + r.nextInt(below + (r.nextInt(40) == 0 ? 2 : 0));
        }
    }

    /** A text that is not as told. */
    private static final class Fault extends RuntimeException {
        private static final long serialVersionUID = 1L;
        final int place;

        Fault(int place) {
            this.place = place;
        }
    }

    private static final class ParsedText {
        private final List<String> tokens = new ArrayList<>();
        private final List<Integer> places = new ArrayList<>();
        private final int end;
        private int at = 0;

        ParsedText(String text) {
            Matcher m = Pattern.compile("[a-z]+|[0-9]+|[^ ]", Pattern.DOTALL).matcher(text);
            while (m.find()) {
                tokens.add(m.group());
                places.add(m.start());
            }
            end = text.length();
        }

        String peek() {
            return at < tokens.size() ? tokens.get(at) : "";
        }

        Fault fault() {
            return new Fault(at < tokens.size() ? places.get(at) : end);
        }

        void want(String token) {
            if (!peek().equals(token)) throw fault();
            at++;
        }

        int number(int most) {
            if (!peek().matches("[0-9]{1,3}") || Integer.parseInt(peek()) > most) throw fault();
            return Integer.parseInt(tokens.get(at++));
        }

        int option(String name, int most, int without) {
            if (!peek().equals(name)) return without;
            at++;
            return number(most);
        }
    }

    /** What is kept, and tried on copies. A child is {KIND, TRAIT, FIRE, WISH, AGE, SWORN}. */
    private static final class World {
        int[] laws = {2, 1, 9, 20};
        int[] vices = {50, 50, 50, 50, 50, 50, 50, 50};
        boolean[] easy = new boolean[8];
        List<int[]> all = new ArrayList<>();
        int year = 0;
        int z = 1;

        World copy() {
            World w = new World();
            w.laws = laws.clone();
            w.vices = vices.clone();
            w.easy = easy.clone();
            for (int[] c : all) w.all.add(c.clone());
            w.year = year;
            w.z = z;
            return w;
        }

        int moves(int[] c) {
            switch (c[0]) {
                case 1: return c[2] / 2;
                case 2: return c[2] + laws[1];
                case 3: return c[2] / 2 + laws[0];
                case 4: return 2 * (c[2] + laws[1]);
                case 5: return year % 2 == 1 ? 0 : c[2];
                default: return c[2];
            }
        }

        int ends(int[] c) {
            return new int[] {21, 25, 14, 25 - laws[0], 14 + c[2], 21}[c[0]];
        }

        World pass(int n) {
            for (int i = 0; i < n; i++) {
                for (int[] c : all) {
                    for (int step = moves(c); c[4] < ends(c) && step > 0; step--) {
                        // step by step towards; away the side is told by where the TRAIT was
                        if (easy[c[5]]) c[1] += Integer.signum(vices[c[5]] - c[1]);
                    }
                    if (c[4] < ends(c) && !easy[c[5]]) {
                        c[1] += c[1] >= vices[c[5]] ? moves(c) : -moves(c);
                        if (c[1] > 99) c[1] = 99;
                        if (c[1] < 0) c[1] = 0;
                    }
                }
                for (int[] c : all) if (c[4] < 99) c[4]++;
                year++;
            }
            return this;
        }

        int draw() {
            z = z * 1103515245 + 12345;
            return z >>> 16;
        }

        World passByDraws() {
            if (!all.isEmpty()) {
                int[] one = all.get(draw() % all.size());
                if (draw() % 100 < laws[3]) one[5] = draw() % 8;
            }
            return pass(1);
        }

        int far(int i) {
            return Math.abs(all.get(i)[1] - all.get(i)[3]);
        }

        int farAll() {
            int sum = 0;
            for (int i = 0; i < all.size(); i++) sum += far(i);
            return sum;
        }

        int traits() {
            return all.stream().mapToInt(c -> c[1]).sum();
        }
    }

    /** The face of the class, plainly. */
    static final class Model {
        private World w = new World();
        private World kept = null;
        private StringBuilder tape = new StringBuilder();
        private List<int[]> rows = new ArrayList<>();
        private final Object[] sheets = new Object[4];
        private final Object[] shelves = new Object[4];
        private List<Integer> trace = new ArrayList<>();

        private boolean no(int v, int least, int most) {
            return v < least || v > most;
        }

        private boolean none(int child) {
            return no(child, 0, w.all.size() - 1);
        }

        public int feed(long eight, int n) {
            if (no(n, 1, 8)) return -1;
            if (tape.length() + n > 200) return -2;
            for (int i = 0; i < n; i++) tape.append((char) (eight >>> 8 * i & 255));
            return tape.length();
        }

        public int church() {
            ParsedText t = new ParsedText(tape.toString());
            tape = new StringBuilder();
            World told = new World();
            told.z = w.z;
            try {
                while (!t.peek().isEmpty()) statement(t, told);
            } catch (Fault f) {
                return -100 - f.place;
            }
            w = told;
            rows = new ArrayList<>();
            return w.all.size();
        }

        private void statement(ParsedText t, World told) {
            int kind = Arrays.asList(Texts.KINDS).indexOf(t.peek());
            int law = Arrays.asList("piety", "slum", "room", "slip").indexOf(t.peek());
            if (kind >= 0) {
                if (told.all.size() == 8) throw t.fault();
                t.at++;
                t.want("to");
                int to = t.number(7);
                told.all.add(new int[] {kind, t.option("trait", 99, 50), t.option("fire", 9, 5), t.option("wish", 99, 50),
                    t.option("age", 99, 0), to});
            } else if (law >= 0) {
                t.at++;
                told.laws[law] = t.number(law < 2 ? 9 : 99);
            } else if (t.peek().equals("easy")) {
                t.at++;
                told.easy[t.number(7)] = true;
            } else {
                t.want("vice");
                int of = t.number(7);
                t.want("is");
                told.vices[of] = t.number(99);
            }
            t.want(";");
        }

        public int set(int law, int v) {
            if (no(law, 0, 3) || no(v, 0, law < 2 ? 9 : 99)) return -1;
            int was = w.laws[law];
            w.laws[law] = v;
            return was;
        }

        public int lawOf(int law) {
            return no(law, 0, 3) ? -1 : w.laws[law];
        }

        public int child(int kind, int trait, int fire, int sworn) {
            if (no(kind, 0, 5) || no(trait, 0, 99) || no(fire, 0, 9) || no(sworn, 0, 7)) return -1;
            if (w.all.size() == 8) return -2;
            w.all.add(new int[] {kind, trait, fire, 50, 0, sworn});
            return w.all.size() - 1;
        }

        public int of(int child, int what) {
            return none(child) || no(what, 0, 5) ? -1 : w.all.get(child)[what];
        }

        public int does(int child, int what) {
            if (none(child) || no(what, 0, 1)) return -1;
            return what == 0 ? w.moves(w.all.get(child)) : w.ends(w.all.get(child));
        }

        public int mind(int child, int kind, int fire) {
            if (none(child) || no(kind, 0, 5) || no(fire, 0, 9)) return -1;
            int was = w.all.get(child)[0];
            w.all.get(child)[0] = kind;
            w.all.get(child)[2] = fire;
            return was;
        }

        public int change(int child, int what, int v) {
            if (none(child) || what != 1 && what != 3 && what != 4 || no(v, 0, 99)) return -1;
            int was = w.all.get(child)[what];
            w.all.get(child)[what] = v;
            return was;
        }

        public int swear(int child, int godmother) {
            if (none(child) || no(godmother, 0, 7)) return -1;
            int was = w.all.get(child)[5];
            w.all.get(child)[5] = godmother;
            return was;
        }

        public int vice(int godmother, int v) {
            if (no(godmother, 0, 7) || no(v, 0, 99)) return -1;
            int was = w.vices[godmother];
            w.vices[godmother] = v;
            return was;
        }

        public int easy(int godmother, int v) {
            if (no(godmother, 0, 7) || no(v, 0, 1)) return -1;
            int was = w.easy[godmother] ? 1 : 0;
            w.easy[godmother] = v == 1;
            return was;
        }

        public int godmother(int godmother, int what) {
            if (no(godmother, 0, 7) || no(what, 0, 2)) return -1;
            if (what == 0) return w.vices[godmother];
            if (what == 1) return w.easy[godmother] ? 1 : 0;
            int set = 0;
            for (int i = 0; i < w.all.size(); i++) if (w.all.get(i)[5] == godmother) set += 1 << i;
            return set;
        }

        public int years(int n) {
            return no(n, 1, 60) ? -1 : w.pass(n).traits();
        }

        public int seed(int v) {
            int was = w.z;
            w.z = v;
            return was;
        }

        public int year() {
            return w.passByDraws().traits();
        }

        public int luck(int n) {
            if (no(n, 1, 30)) return -1;
            int lucky = 0;
            int z = w.z;
            for (int i = 0; i < n; i++) {
                World tried = w.copy();
                tried.z = z;
                tried.passByDraws();
                z = tried.z;
                if (tried.farAll() < w.copy().pass(1).farAll()) lucky++;
            }
            return lucky;
        }

        public int state(int what) {
            int set = 0;
            switch (what) {
                case 0: return w.year;
                case 1: return w.traits();
                case 2: return w.farAll();
                case 3:
                    for (int i = 0; i < w.all.size(); i++) if (w.all.get(i)[4] >= w.ends(w.all.get(i))) set += 1 << i;
                    return set;
                case 4:
                    for (int i = 0; i < 8; i++) if (w.easy[i]) set += 1 << i;
                    return set;
                case 5: return Arrays.stream(w.vices).sum();
                default: return -1;
            }
        }

        public int becomes(int child, int n) {
            return none(child) || no(n, 0, 60) ? -1 : w.copy().pass(n).all.get(child)[1];
        }

        public int suited(int child) {
            if (none(child)) return -1;
            for (int n = 0; n <= 60; n++) if (w.copy().pass(n).far(child) <= w.laws[2]) return n;
            return -3;
        }

        public int grown() {
            for (int n = 0; n <= 60; n++) {
                World tried = w.copy().pass(n);
                if (tried.all.stream().noneMatch(c -> c[4] < tried.ends(c))) return n;
            }
            return -3;
        }

        public int far(int child, int n) {
            return none(child) || no(n, 0, 60) ? -1 : w.copy().pass(n).far(child);
        }

        private int farWith(int child, int n, int what, int v) {
            World tried = w.copy();
            tried.all.get(child)[what] = v;
            return tried.pass(n).far(child);
        }

        private int nearest(int child, int n, int what, int most) {
            if (none(child) || no(n, 1, 30)) return -1;
            int nearest = most;
            for (int v = most; v >= 0; v--) {
                if (farWith(child, n, what, v) <= farWith(child, n, what, nearest)) nearest = v;
            }
            return nearest;
        }

        public int swearFor(int child, int n) {
            return nearest(child, n, 5, 7);
        }

        public int kindFor(int child, int n) {
            return nearest(child, n, 0, 5);
        }

        public int fireFor(int child, int n) {
            return nearest(child, n, 2, 9);
        }

        public int best(int n) {
            if (no(n, 1, 30)) return -1;
            int[][] fars = fars(n);
            return bestFrom(0, 0, fars);
        }

        private int[][] fars(int n) {
            int[][] fars = new int[w.all.size()][8];
            for (int i = 0; i < fars.length; i++) for (int g = 0; g < 8; g++) fars[i][g] = farWith(i, n, 5, g);
            return fars;
        }

        private int bestFrom(int child, int used, int[][] fars) {
            if (child == fars.length) return 0;
            int best = Integer.MAX_VALUE;
            for (int g = 0; g < 8; g++) {
                if ((used & 1 << g) == 0) best = Math.min(best, fars[child][g] + bestFrom(child + 1, used | 1 << g, fars));
            }
            return best;
        }

        public int enough(int n) {
            if (no(n, 1, 30)) return -1;
            int[][] fars = fars(n);
            for (int size = 0; size <= 8; size++) {
                for (int set = 0; set < 256; set++) {
                    if (Integer.bitCount(set) == size && serves(set, fars)) return set;
                }
            }
            return -3;
        }

        private boolean serves(int set, int[][] fars) {
            for (int[] far : fars) {
                int least = 1000;
                for (int g = 0; g < 8; g++) if ((set & 1 << g) != 0) least = Math.min(least, far[g]);
                if (least > w.laws[2]) return false;
            }
            return true;
        }

        public int fits(int sheet, int child, int what) {
            if (no(sheet, 0, 3) || none(child) || no(what, 0, 1)) return -1;
            if (sheets[sheet] == null) return -11;
            List<Integer> fit = new ArrayList<>();
            for (int g = 0; g < 8; g++) {
                World tried = w.copy();
                tried.all.get(child)[5] = g;
                boolean fits = true;
                for (int i = 0; i < java.lang.reflect.Array.getLength(sheets[sheet]); i++) {
                    long due = java.lang.reflect.Array.getLong(sheets[sheet], i);
                    if (tried.pass(1).all.get(child)[1] != due && due != -1) fits = false;
                }
                if (fits) fit.add(g);
            }
            return what == 0 ? fit.size() : fit.isEmpty() ? -3 : fit.get(0);
        }

        private long part(BigInteger above, BigInteger below, int part) {
            BigInteger d = above.gcd(below);
            return (part == 0 ? above : below).divide(d).longValueExact();
        }

        public long odds(int n, int k, int part) {
            if (no(n, 0, 8) || no(k, 0, n) || no(part, 0, 1)) return -1;
            BigInteger above = BigInteger.ZERO;
            for (int births = 0; births < 1 << n; births++) {
                if (Integer.bitCount(births) != k) continue;
                BigInteger one = BigInteger.ONE;
                for (int i = 0; i < n; i++) {
                    one = one.multiply(BigInteger.valueOf((births & 1 << i) != 0 ? w.laws[3] : 100 - w.laws[3]));
                }
                above = above.add(one);
            }
            return part(above, BigInteger.valueOf(100).pow(n), part);
        }

        public long hope(int n, int part) {
            if (no(n, 0, 99) || no(part, 0, 1)) return -1;
            return part(BigInteger.valueOf(n * w.laws[3]), BigInteger.valueOf(100), part);
        }

        private List<int[]> rowsOf(int child, int n) {
            List<int[]> due = new ArrayList<>();
            for (int i = 1; i <= n; i++) {
                World tried = w.copy().pass(i);
                due.add(new int[] {tried.all.get(child)[1], tried.all.get(child)[4], tried.far(child)});
            }
            return due;
        }

        public int prove(int child, int n) {
            if (none(child) || no(n, 1, 10)) return -1;
            rows = rowsOf(child, n);
            return n;
        }

        public int row(int i, int what) {
            return no(i, 0, rows.size() - 1) || no(what, 0, 2) ? -9 : rows.get(i)[what];
        }

        public int alterRow(int i, int what, int v) {
            if (no(i, 0, rows.size() - 1) || no(what, 0, 2)) return -9;
            int was = rows.get(i)[what];
            rows.get(i)[what] = v;
            return was;
        }

        public int judge(int child) {
            if (none(child)) return -1;
            List<int[]> due = rowsOf(child, rows.size());
            for (int i = 0; i < rows.size(); i++) if (!Arrays.equals(due.get(i), rows.get(i))) return i + 1;
            return 0;
        }

        public int minds(int sheet, int i, int child, int n) {
            if (no(sheet, 0, 3) || none(child) || no(n, 0, 8) || child + n > w.all.size()) return -1;
            if (sheets[sheet] == null) return -11;
            if (!(sheets[sheet] instanceof byte[])) return -13;
            byte[] bytes = (byte[]) sheets[sheet];
            if (no(i, 0, bytes.length) || i + n > bytes.length) return -12;
            for (int k = 0; k < n; k++) w.all.get(child + k)[1] = bytes[i + k] < 0 ? 0 : bytes[i + k] > 99 ? 99 : bytes[i + k];
            return n;
        }

        public int sheet(int sheet, int sort, int n) {
            if (no(sheet, 0, 3) || no(sort, -1, 3) || sort >= 0 && n > 40) return -1;
            if (sort >= 0 && n < 0) return -14;
            sheets[sheet] = sort == 0 ? new byte[n] : sort == 1 ? new short[n] : sort == 2 ? new int[n]
                : sort == 3 ? (Object) new long[n] : null;
            return 1;
        }

        private int sort(Object row) {
            return row instanceof byte[] ? 0 : row instanceof short[] ? 1 : row instanceof int[] ? 2 : row instanceof long[] ? 3 : -1;
        }

        private int size(Object row) {
            return java.lang.reflect.Array.getLength(row);
        }

        public int put(int sheet, int i, int v) {
            if (no(sheet, 0, 3)) return -1;
            Object row = sheets[sheet];
            if (row == null) return -11;
            if (no(i, 0, size(row) - 1)) return -12;
            if (row instanceof byte[]) ((byte[]) row)[i] = (byte) v;
            if (row instanceof short[]) ((short[]) row)[i] = (short) v;
            if (row instanceof int[]) ((int[]) row)[i] = v;
            if (row instanceof long[]) ((long[]) row)[i] = v;
            return 1;
        }

        public int item(int sheet, int sort, int i) {
            if (no(sheet, 0, 3) || no(sort, 0, 3)) return -1;
            if (sheets[sheet] == null) return -11;
            if (sort(sheets[sheet]) != sort) return -13;
            if (no(i, 0, size(sheets[sheet]) - 1)) return -12;
            return (int) java.lang.reflect.Array.getLong(sheets[sheet], i);
        }

        public int shelf(int shelf, int what, int n) {
            if (no(shelf, 0, 3) || no(what, 0, 2) || what == 0 && none(n) || what == 1 && no(n, 0, 3)) return -1;
            shelves[shelf] = what == 0 ? (Object) n : what == 1 ? sheets[n] : null;
            return 1;
        }

        private Object held(int shelf) {
            Object thing = shelves[shelf];
            return thing instanceof Integer && none((Integer) thing) ? null : thing;
        }

        public int taken(int shelf, int as) {
            if (no(shelf, 0, 3) || no(as, 0, 5) && no(as, 10, 13)) return -1;
            Object thing = held(shelf);
            if (thing == null) return -11;
            if (!(thing instanceof Integer)) return as == sort(thing) + 10 ? size(thing) : -13;
            String under = new String[] {"0", "01", "02", "013", "024", "05"}[w.all.get((Integer) thing)[0]];
            return as < 6 && under.contains("" + as) ? (Integer) thing : -13;
        }

        public int act(int shelf, int act, int x) {
            trace = new ArrayList<>();
            if (no(shelf, 0, 3) || no(act, 0, 3) || !(held(shelf) instanceof Integer)) return 0;
            int n = (Integer) held(shelf);
            Things.Child thing = Things.of(w.all.get(n)[0]);
            thing.n = n;
            thing.a = w.all.get(n)[5];
            thing.trace = trace;
            try {
                return act == 0 ? thing.kicks(x) : act == 1 ? thing.prays(x) : act == 2 ? thing.parts(x) : thing.grows(x);
            } catch (ArithmeticException e) {
                return -15;
            }
        }

        public int trace(int i) {
            return no(i, 0, Math.min(30, trace.size()) - 1) ? -3 : trace.get(i);
        }

        public int many(int what) {
            switch (what) {
                case 0: return w.all.size();
                case 1: return (int) w.all.stream().filter(c -> c[4] < w.ends(c)).count();
                case 2: return Integer.bitCount(state(4));
                case 3: return (int) w.all.stream().mapToInt(c -> c[5]).distinct().count();
                case 4: return rows.size();
                case 5: return tape.length();
                case 6: return Math.min(30, trace.size());
                default: return -1;
            }
        }

        public int keep() {
            kept = w.copy();
            return 1;
        }

        public int again() {
            if (kept == null) return -3;
            w = kept.copy();
            return w.all.size();
        }
    }

    /** The acts as the document tells them, with the machine's own exception. */
    private static final class Things {
        static Child of(int kind) {
            switch (kind) {
                case 1: return new Heir();
                case 2: return new Urchin();
                case 3: return new Curate();
                case 4: return new Reformer();
                case 5: return new Twin();
                default: return new Child();
            }
        }

        static class Child {
            int n, a;
            List<Integer> trace;
            int kicks(int x) { trace.add(10); return x * 9 - n; }
            int prays(int x) { trace.add(11); return kicks(x) - a * 2; }
            int parts(int x) { trace.add(12); return x / (a - n); }
            int grows(int x) { trace.add(13); return prays(x) ^ 80; }
        }

        static class Heir extends Child {
            @Override int prays(int x) { trace.add(20); return super.prays(x) + 3; }
        }

        static class Urchin extends Child {
            @Override int kicks(int x) { trace.add(30); return 0 - super.kicks(x); }
            @Override int grows(int x) { trace.add(31); return super.grows(x) + parts(n); }
        }

        static class Reformer extends Urchin {
            @Override int kicks(int x) { trace.add(40); return super.kicks(x) ^ 6; }
            @Override int prays(int x) { trace.add(41); return super.prays(x) - kicks(a); }
        }

        static class Curate extends Heir {
            @Override int parts(int x) { trace.add(50); return super.parts(x * 2) - 4; }
            @Override int kicks(int x) { trace.add(51); return super.kicks(x) + a; }
        }

        static class Twin extends Child {
            @Override int grows(int x) { trace.add(60); return super.grows(x) * 3; }
            @Override int parts(int x) { trace.add(61); return super.parts(x) + kicks(n); }
        }
    }
}
