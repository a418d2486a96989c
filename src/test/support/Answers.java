import java.util.function.Supplier;
import java.util.function.ToLongFunction;

/** What the tests of single sentences share: the sentence that is tested, texts, and all that can be seen of a church. */
final class Answers {
    static final int BAD = -1, FULL = -2, NONE = -3;
    static final int LEAST = Integer.MIN_VALUE, MOST = Integer.MAX_VALUE;

    private static String sentence = "";
    private static int sentences = 0, asked = 0, wrong = 0;

    private Answers() {
    }

    static void sentence(String where, String words) {
        sentence = where + " \"" + words + "\"";
        sentences++;
    }

    static void must(boolean holds, String otherwise) {
        asked++;
        if (holds) return;
        wrong++;
        System.out.println(sentence + ": " + otherwise);
    }

    static void due(String call, long got, long want) {
        must(got == want, call + " answered " + got + ", due is " + want);
    }

    /** Of two long rows of answers that differ, what they have from there on. */
    private static void same(String what, String got, String want) {
        int at = 0;
        while (at < got.length() && at < want.length() && got.charAt(at) == want.charAt(at)) at++;
        int from = Math.max(0, at - 20);
        must(got.equals(want), what + " is .." + part(got, from) + ", due is .." + part(want, from));
    }

    private static String part(String row, int from) {
        return row.substring(Math.min(from, row.length()), Math.min(from + 40, row.length()));
    }

    static void sameAll(String when, BoundGodmothers x, BoundGodmothers other) {
        same("all that can be seen " + when, all(x), all(other));
    }

    static void end() {
        System.out.println(sentences + " sentences, " + asked + " answers, " + wrong + " not as due");
        if (wrong != 0 || sentences == 0) System.exit(1);
    }

    static BoundGodmothers feed(BoundGodmothers x, String text) {
        for (int i = 0; i < text.length(); i += 8) {
            int n = Math.min(8, text.length() - i);
            long eight = 0;
            for (int k = n - 1; k >= 0; k--) eight = eight << 8 | text.charAt(i + k) & 255;
            int before = x.many(5);
            due("feed of '" + text + "'", x.feed(eight, n), before + n);
        }
        return x;
    }

    static BoundGodmothers told(String text) {
        BoundGodmothers x = feed(new BoundGodmothers(), text);
        int children = 0;
        for (String statement : text.split(";")) if (statement.contains(" to ")) children++;
        due("church() of '" + text + "'", x.church(), children);
        return x;
    }

    /** Three CHILDREN, and something of all that there can be: kept, ROWS, SHEETS, SHELVES, THE TRACE, THE TAPE. */
    static BoundGodmothers few() {
        BoundGodmothers x = told("child to 3 trait 40 wish 60;heir to 5 fire 7 age 4;reformer to 1 trait 9;vice 3 is 45;"
            + "easy 5;room 4;slip 35;piety 7;");
        x.seed(1234);
        x.keep();
        x.years(2);
        x.change(0, 3, 61);
        x.prove(1, 4);
        x.alterRow(2, 1, -9);
        x.sheet(0, 0, 5);
        for (int i = 0; i < 5; i++) x.put(0, i, 30 * i - 7);
        x.sheet(1, 2, 3);
        x.put(1, 2, -13);
        x.sheet(2, 3, 0);
        x.shelf(0, 0, 2);
        x.shelf(1, 1, 0);
        x.shelf(2, 1, 2);
        x.act(0, 3, 5);
        return feed(x, "heir to 3 age 7;");
    }

    /** The same with eight. */
    static BoundGodmothers full() {
        BoundGodmothers x = few();
        for (int i = 3; i < 8; i++) x.child(i - 3, 10 * i, i, 7 - i);
        return x;
    }

    /** All that can be seen; what is seen by changing it comes last. It takes fewer than 400 calls. */
    private static String all(BoundGodmothers x) {
        StringBuilder seen = new StringBuilder(church(x));
        for (int what = 0; what <= 6; what++) seen.append(" many").append(x.many(what));
        for (int i = 0; i < 10; i++) {
            for (int what = 0; what < 3; what++) seen.append(" row").append(x.row(i, what));
        }
        for (int i = 0; i < 4; i++) {
            seen.append(" sheet").append(sheet(x, i)).append(" shelf");
            for (int as = 0; as <= 13; as++) if (as < 6 || as > 9) seen.append(' ').append(x.taken(i, as));
        }
        for (int i = 0; i < 12; i++) seen.append(" trace").append(x.trace(i));
        seen.append(" z").append(x.seed(99));
        seen.append("\nkept ").append(x.again()).append(church(x)).append(" z").append(x.seed(98));
        return seen.append("\ntold ").append(x.church()).append(church(x)).append(" z").append(x.seed(97)).toString();
    }

    private static String church(BoundGodmothers x) {
        StringBuilder seen = new StringBuilder();
        int many = x.many(0);
        for (int i = 0; i < many; i++) {
            seen.append(" one");
            for (int what = 0; what < 6; what++) seen.append(' ').append(x.of(i, what));
        }
        for (int law = 0; law < 4; law++) seen.append(" law").append(x.lawOf(law));
        for (int i = 0; i < 8; i++) seen.append(" godmother").append(x.godmother(i, 0)).append(' ').append(x.godmother(i, 1));
        return seen.append(" year").append(x.state(0)).toString();
    }

    private static String sheet(BoundGodmothers x, int sheet) {
        int sort = -1;
        for (int as = 0; as < 4 && sort < 0; as++) {
            int first = x.item(sheet, as, -1);
            if (first == -12) sort = as;
        }
        StringBuilder seen = new StringBuilder().append(sort);
        for (int i = 0; i < 6; i++) seen.append(' ').append(x.item(sheet, Math.max(0, sort), i));
        return seen.toString();
    }

    /** A call on a church answers as due, and leaves all as it is in one without the call. */
    static void leavesAll(String call, Supplier<BoundGodmothers> made, ToLongFunction<BoundGodmothers> called, long want) {
        BoundGodmothers x = made.get();
        due(call, called.applyAsLong(x), want);
        sameAll("behind " + call, x, made.get());
    }
}
