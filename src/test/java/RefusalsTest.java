import java.lang.reflect.Method;
import java.util.Arrays;
import java.util.function.Supplier;
import java.util.function.ToLongFunction;
import java.util.regex.Matcher;
import java.util.regex.Pattern;

/** Each range that a promise tells, at both ends and beyond; each refusal, what it leaves, and which comes first. */
public final class RefusalsTest {
    /**
     * A promise, its call, and for each number one that is taken, and the range in which it may be; behind the range what
     * is answered below and above it, if not BAD. Each is asked of a church of three CHILDREN.
     */
    private static final String[] RANGES = {
        "2 feed 32 1[1,8]",
        "4 set 0[0,3] 5", "4 set 0 5[0,9]", "4 set 1 5[0,9]", "4 set 2 5[0,99]", "4 set 3 5[0,99]",
        "5 lawOf 0[0,3]",
        "6 child 0[0,5] 50[0,99] 5[0,9] 0[0,7]",
        "7 of 0[0,2] 0[0,5]",
        "8 does 0[0,2] 0[0,1]",
        "9 mind 0[0,2] 0[0,5] 5[0,9]",
        "10 change 0[0,2] 1[1,1] 50[0,99]", "10 change 0[0,2] 3[3,4] 50[0,99]", "10 change 0[0,2] 4 50[0,99]",
        "11 swear 0[0,2] 0[0,7]",
        "12 vice 0[0,7] 50[0,99]",
        "13 easy 0[0,7] 0[0,1]",
        "14 godmother 0[0,7] 0[0,2]",
        "15 years 1[1,60]",
        "16 seed 0[-2147483648,2147483647]",
        "18 luck 1[1,30]",
        "19 state 0[0,5]",
        "20 becomes 0[0,2] 0[0,60]",
        "21 suited 0[0,2]",
        "23 far 0[0,2] 0[0,60]",
        "24 swearFor 0[0,2] 1[1,30]",
        "25 kindFor 0[0,2] 1[1,30]",
        "26 fireFor 0[0,2] 1[1,30]",
        "27 best 1[1,30]",
        "28 enough 1[1,30]",
        "29 fits 0[0,3] 0[0,2] 0[0,1]",
        "30 odds 0[0,8] 0 0[0,1]", "30 odds 0 0[0,0] 0", "30 odds 5 0[0,5] 0", "30 odds 8 0[0,8] 1[0,1]",
        "31 hope 0[0,99] 0[0,1]",
        "32 prove 0[0,2] 1[1,10]",
        "33 row 0[0,3]-9,-9 0[0,2]-9,-9",
        "34 alterRow 0[0,3]-9,-9 0[0,2]-9,-9 0[-2147483648,2147483647]",
        "35 judge 0[0,2]",
        "36 minds 0[0,3] 0 0[0,2] 1[0,3]", "36 minds 0 0 1 1[0,2]", "36 minds 0 0 2 1[0,1]",
        "36 minds 0 0[0,5]-12,-12 0 0", "36 minds 0 0[0,4]-12,-12 0 1", "36 minds 0 0[0,2]-12,-12 0 3",
        "37 sheet 0[0,3] 0[-1,3] 5[0,40]-14,-1", "37 sheet 3 3[-1,3] 5[0,40]-14,-1",
        "37 sheet 0 -1 5[-2147483648,2147483647]",
        "38 put 0[0,3] 0[0,4]-12,-12 1[-2147483648,2147483647]", "38 put 1 0[0,2]-12,-12 1",
        "39 item 0[0,3] 0[0,3] 0[0,4]-12,-12", "39 item 1 2 0[0,2]-12,-12",
        "40 shelf 0[0,3] 0[0,2] 0[0,2]", "40 shelf 0 1 0[0,3]", "40 shelf 0 2 0[-2147483648,2147483647]",
        "41 taken 0[0,3] 0[0,5]", "41 taken 1 10[10,13]",
        "43 trace 0[0,10]-3,-3",
        "44 many 0[0,6]",
    };

    public static void main(String[] args) {
        for (String told : RANGES) range(told);
        beyondTheFirstEight();
        full();
        none();
        firstNamed();
        firstNamedOfTheHost();
        usedUp();
        asking();
        Answers.end();
    }

    // ---- ranges

    private static Method named(String name) {
        return Arrays.stream(BoundGodmothers.class.getMethods()).filter(m -> m.getName().equals(name)).findFirst().orElseThrow();
    }

    private static void range(String told) {
        String[] words = told.split(" ");
        Method call = named(words[1]);
        long[] given = new long[words.length - 2];
        for (int i = 0; i < given.length; i++) given[i] = Long.parseLong(words[i + 2].replaceAll("\\[.*", ""));
        for (int i = 0; i < given.length; i++) {
            Matcher m = Pattern.compile("[^\\[]*\\[(.*),(.*)\\](?:(.*),(.*))?").matcher(words[i + 2]);
            if (!m.matches()) continue;
            Answers.sentence("promise " + words[0], words[1] + ", number " + i + " is " + m.group(1) + " to " + m.group(2));
            long below = m.group(3) == null ? Answers.BAD : Long.parseLong(m.group(3));
            long above = m.group(4) == null ? Answers.BAD : Long.parseLong(m.group(4));
            atEnds(call, given, i, Long.parseLong(m.group(1)), Long.parseLong(m.group(2)), below, above);
        }
    }

    private static void atEnds(Method call, long[] given, int i, long least, long most, long below, long above) {
        for (long v : new long[] {least, most}) {
            long answer = ask(call, with(given, i, v), Answers.few());
            boolean isRefused = answer == Answers.BAD || answer == below || answer == above;
            Answers.must(!isRefused, told(call, with(given, i, v)) + " is refused by " + answer);
        }
        for (long v : new long[] {least - 1, least - 2, least - 256, Answers.LEAST}) {
            if (v < least && v >= Answers.LEAST && !isInAnotherRange(call, i, v)) refused(call, with(given, i, v), below);
        }
        for (long v : new long[] {most + 1, most + 2, most + 256, Answers.MOST}) {
            if (v > most && v <= Answers.MOST && !isInAnotherRange(call, i, v)) refused(call, with(given, i, v), above);
        }
    }

    /** What change() changes, and as what taken() takes, are two ranges each. */
    private static boolean isInAnotherRange(Method call, int i, long v) {
        boolean isChanged = call.getName().equals("change") && (v == 1 || v == 3 || v == 4);
        boolean isTaken = call.getName().equals("taken") && (v >= 0 && v <= 5 || v >= 10 && v <= 13);
        return i == 1 && (isChanged || isTaken);
    }

    private static void refused(Method call, long[] given, long want) {
        Answers.leavesAll(told(call, given), Answers::few, x -> ask(call, given, x), want);
    }

    private static long[] with(long[] given, int i, long v) {
        long[] other = given.clone();
        other[i] = v;
        return other;
    }

    private static String told(Method call, long[] given) {
        return call.getName() + Arrays.toString(given);
    }

    private static long ask(Method call, long[] given, BoundGodmothers x) {
        Object[] all = new Object[given.length];
        for (int i = 0; i < all.length; i++) {
            if (call.getParameterTypes()[i] == long.class) all[i] = given[i];
            else all[i] = (int) given[i];
        }
        try {
            return ((Number) call.invoke(x, all)).longValue();
        } catch (ReflectiveOperationException e) {
            throw new IllegalStateException(told(call, given), e);
        }
    }

    /** With eight CHILDREN all that takes one takes the last; without any there is none. */
    private static void beyondTheFirstEight() {
        Answers.sentence("section 1", "CHILDREN, 8 at most, numbered as they come");
        String[] calls = {"of 0", "does 0", "mind 0 5", "change 1 50", "swear 0", "becomes 0", "suited", "far 0", "swearFor 1",
            "kindFor 1", "fireFor 1", "prove 1", "judge"};
        for (String told : calls) {
            String[] words = told.split(" ");
            Method call = named(words[0]);
            long[] given = new long[words.length];
            for (int i = 1; i < given.length; i++) given[i] = Long.parseLong(words[i]);
            long answer = ask(call, with(given, 0, 7), Answers.full());
            Answers.must(answer != Answers.BAD, told + " of the last is refused");
            for (long one : new long[] {-1, 8, 9, Answers.LEAST, Answers.MOST}) {
                Answers.leavesAll(told + " of " + one, Answers::full, x -> ask(call, with(given, 0, one), x), Answers.BAD);
            }
            Answers.leavesAll(told + " without any", BoundGodmothers::new, x -> ask(call, given, x), Answers.BAD);
        }
        Answers.leavesAll("fits without any", BoundGodmothers::new, x -> x.fits(0, 0, 0), Answers.BAD);
        Answers.leavesAll("minds without any", BoundGodmothers::new, x -> x.minds(0, 0, 0, 0), Answers.BAD);
        Answers.leavesAll("shelf without any", BoundGodmothers::new, x -> x.shelf(0, 0, 0), Answers.BAD);
        Answers.due("shelf of the last", Answers.full().shelf(0, 0, 7), 1);
        Answers.leavesAll("shelf of a ninth", Answers::full, x -> x.shelf(0, 0, 8), Answers.BAD);
        Answers.due("minds of the last", Answers.full().minds(0, 0, 7, 1), 1);
        Answers.leavesAll("minds beyond the last", Answers::full, x -> x.minds(0, 0, 7, 2), Answers.BAD);
        Answers.leavesAll("fits of a ninth", Answers::full, x -> x.fits(0, 8, 0), Answers.BAD);
    }

    // ---- FULL and NONE

    private static BoundGodmothers tapeOf(int bytes) {
        return Answers.feed(Answers.few(), " ".repeat(bytes - 16));
    }

    private static void full() {
        Answers.sentence("promise 2", "FULL: more than 200");
        for (int n = 1; n <= 8; n++) {
            int many = n;
            Answers.due("feed up to 200 by " + n, tapeOf(200 - n).feed(0x2020202020202020L, n), 200);
            Answers.leavesAll("feed up to 201 by " + n, () -> tapeOf(201 - many), x -> x.feed(-1, many), Answers.FULL);
            Answers.leavesAll("feed to 200 by " + n, () -> tapeOf(200), x -> x.feed(-1, many), Answers.FULL);
        }
        Answers.sentence("promise 6", "One more: its number. BAD; FULL");
        BoundGodmothers x = new BoundGodmothers();
        for (int i = 0; i < 8; i++) Answers.due("one more", x.child(i % 6, 0, 0, 0), i);
        Answers.due("a ninth", x.child(0, 0, 0, 0), Answers.FULL);
        Answers.leavesAll("a ninth", Answers::full, y -> y.child(0, 50, 5, 0), Answers.FULL);
        Answers.due("a ninth when they are fewer again", fewerAgain().child(0, 1, 1, 1), 3);
    }

    private static BoundGodmothers fewerAgain() {
        BoundGodmothers x = Answers.full();
        Answers.due("again()", x.again(), 3);
        return x;
    }

    private static void none() {
        Supplier<BoundGodmothers> still = () -> Answers.told("child to 0 fire 0 wish 60;");
        Answers.sentence("promise 21", "NONE: not by then");
        Answers.leavesAll("suited of one that never moves", still, x -> x.suited(0), Answers.NONE);
        Answers.sentence("promise 28", "NONE: by no set");
        Answers.leavesAll("enough of one that never moves", still, x -> x.enough(30), Answers.NONE);
        Answers.sentence("promise 29", "NONE (what 1): none");
        Answers.leavesAll("fits of a wrong number", Answers::few, x -> x.fits(0, 0, 1), Answers.NONE);
        Answers.leavesAll("how many fit a wrong number", Answers::few, x -> x.fits(0, 0, 0), 0);
        Answers.sentence("promise 43", "NONE");
        Answers.leavesAll("trace without an act", () -> new BoundGodmothers(), x -> x.trace(0), Answers.NONE);
        Answers.sentence("promise 46", "NONE: nothing is kept");
        Answers.leavesAll("again", () -> Answers.told("child to 0;"), BoundGodmothers::again, Answers.NONE);
        Answers.sentence("promise 33", "-9: there is none such");
        Answers.leavesAll("row without ROWS", () -> Answers.told("child to 0;"), x -> x.row(0, 0), -9);
        Answers.leavesAll("alterRow without ROWS", () -> Answers.told("child to 0;"), x -> x.alterRow(0, 0, 7), -9);
    }

    // ---- of several refusals the first named

    private static void firstNamed() {
        Answers.sentence("terms", "of several the first named: BAD, FULL");
        Answers.leavesAll("feed of 9 bytes, full", () -> tapeOf(200), x -> x.feed(1, 9), Answers.BAD);
        Answers.leavesAll("feed of 0 bytes, full", () -> tapeOf(200), x -> x.feed(1, 0), Answers.BAD);
        Answers.leavesAll("a ninth of no KIND", Answers::full, x -> x.child(6, 50, 5, 0), Answers.BAD);
        Answers.leavesAll("a ninth with TRAIT 100", Answers::full, x -> x.child(0, 100, 5, 0), Answers.BAD);
        Answers.leavesAll("a ninth with FIRE 10", Answers::full, x -> x.child(0, 50, 10, 0), Answers.BAD);
        Answers.leavesAll("a ninth SWORN to 8", Answers::full, x -> x.child(0, 50, 5, 8), Answers.BAD);
    }

    /** SHEET 3 of the few is missing, SHEET 1 has 3 ints, SHEET 0 has 5 bytes; SHELF 3 holds nothing, SHELF 1 bytes. */
    private static void firstNamedOfTheHost() {
        Answers.sentence("promise 29", "BAD: no such SHEET, one, what; -11");
        refusedByFew("fits, missing, no such one", x -> x.fits(3, 3, 0), Answers.BAD);
        refusedByFew("fits, missing, no such what", x -> x.fits(3, 0, 2), Answers.BAD);
        refusedByFew("fits, missing, what 0", x -> x.fits(3, 0, 0), -11);
        refusedByFew("fits, missing, what 1", x -> x.fits(3, 0, 1), -11);
        Answers.sentence("promise 36", "BAD: no such SHEET, one, n, or n goes beyond the last one; -11; -13; -12");
        refusedByFew("minds, missing, no such one", x -> x.minds(3, 0, 3, 0), Answers.BAD);
        refusedByFew("minds, missing, n 9", x -> x.minds(3, 0, 0, 9), Answers.BAD);
        refusedByFew("minds, missing, n -1", x -> x.minds(3, 0, 0, -1), Answers.BAD);
        refusedByFew("minds, missing, beyond the last", x -> x.minds(3, 0, 1, 3), Answers.BAD);
        refusedByFew("minds, ints, beyond the last", x -> x.minds(1, 9, 1, 3), Answers.BAD);
        refusedByFew("minds, outside, beyond the last", x -> x.minds(0, 9, 1, 3), Answers.BAD);
        refusedByFew("minds, missing, outside", x -> x.minds(3, -1, 0, 1), -11);
        refusedByFew("minds, missing, n 0", x -> x.minds(3, 0, 0, 0), -11);
        refusedByFew("minds, ints, outside", x -> x.minds(1, -1, 0, 1), -13);
        refusedByFew("minds, ints, n 0", x -> x.minds(1, 0, 0, 0), -13);
        refusedByFew("minds, outside", x -> x.minds(0, 3, 0, 3), -12);
        refusedByFew("minds, far outside", x -> x.minds(0, Answers.MOST, 0, 3), -12);
        Answers.sentence("promise 37", "BAD: no such SHEET, sort, n above 40; -14");
        refusedByFew("sheet 4, n -1", x -> x.sheet(4, 0, -1), Answers.BAD);
        refusedByFew("sort 4, n -1", x -> x.sheet(0, 4, -1), Answers.BAD);
        refusedByFew("sheet 4, missing", x -> x.sheet(4, -1, 0), Answers.BAD);
        Answers.sentence("promise 38", "BAD: no such SHEET; -11; -12");
        refusedByFew("put, no such SHEET, outside", x -> x.put(4, -1, 1), Answers.BAD);
        refusedByFew("put, missing, outside", x -> x.put(3, -1, 1), -11);
        refusedByFew("put, a row of none", x -> x.put(2, 0, 1), -12);
        Answers.sentence("promise 39", "BAD: no such SHEET, sort; -11; -13; -12");
        refusedByFew("item, missing, no such sort", x -> x.item(3, 4, 0), Answers.BAD);
        refusedByFew("item, missing, sort -1", x -> x.item(3, -1, 0), Answers.BAD);
        refusedByFew("item, missing, outside", x -> x.item(3, 0, -1), -11);
        refusedByFew("item, another sort, outside", x -> x.item(1, 0, 3), -13);
        refusedByFew("item, outside", x -> x.item(1, 2, 3), -12);
        Answers.sentence("promise 40", "BAD: no such SHELF, what, thing");
        refusedByFew("shelf 4, nothing", x -> x.shelf(4, 2, 0), Answers.BAD);
        refusedByFew("shelf, no such SHEET", x -> x.shelf(0, 1, 4), Answers.BAD);
        refusedByFew("shelf, no such one", x -> x.shelf(0, 0, 3), Answers.BAD);
        Answers.sentence("promise 41", "BAD: no such SHELF, as; -11; -13");
        refusedByFew("taken, nothing, as 6", x -> x.taken(3, 6), Answers.BAD);
        refusedByFew("taken, nothing, as 14", x -> x.taken(3, 14), Answers.BAD);
        refusedByFew("taken, nothing", x -> x.taken(3, 0), -11);
        refusedByFew("taken, nothing as a row", x -> x.taken(3, 13), -11);
        refusedByFew("taken, bytes as a child", x -> x.taken(1, 0), -13);
        refusedByFew("taken, bytes as shorts", x -> x.taken(1, 11), -13);
        refusedByFew("taken, a reformer as an heir", x -> x.taken(0, 1), -13);
        refusedByFew("taken, a reformer as bytes", x -> x.taken(0, 10), -13);
    }

    private static void refusedByFew(String call, ToLongFunction<BoundGodmothers> called, long want) {
        Answers.leavesAll(call, Answers::few, called, want);
    }

    /** Behind a FAULT all is as if THE TAPE alone had been emptied: as in one that was never fed what is at fault. */
    private static void usedUp() {
        Answers.sentence("terms", "such a call changes nothing (but that THE TAPE is used up by church())");
        BoundGodmothers x = Answers.feed(Answers.few(), "?");
        Answers.due("church() with a FAULT", x.church(), -100 - 16);
        Answers.due("bytes of THE TAPE", x.many(5), 0);
        Answers.due("ROWS", x.many(4), 4);
        Answers.feed(x, "heir to 3 age 7;");
        Answers.sameAll("behind a FAULT", x, Answers.few());
    }

    /** What is asked or tried leaves all. */
    private static void asking() {
        Answers.sentence("section 2", "What is asked here is TRIED; nothing changes");
        String[] asked = {"lawOf 3", "of 1 2", "does 2 1", "godmother 5 2", "luck 30", "state 2", "becomes 1 60", "suited 0",
            "grown", "far 2 60", "swearFor 1 30", "kindFor 1 30", "fireFor 1 30", "best 30", "enough 30", "fits 0 1 0",
            "odds 8 3 0", "hope 99 1", "row 1 1", "judge 1", "item 0 0 1", "taken 0 4", "trace 1", "many 4"};
        for (String told : asked) {
            String[] words = told.split(" ");
            Method call = named(words[0]);
            long[] given = new long[words.length - 1];
            for (int i = 0; i < given.length; i++) given[i] = Long.parseLong(words[i + 1]);
            for (Supplier<BoundGodmothers> made : Arrays.<Supplier<BoundGodmothers>>asList(Answers::few, Answers::full)) {
                long want = ask(call, given, made.get());
                Answers.leavesAll(told(call, given), made, x -> ask(call, given, x), want);
            }
        }
    }
}
