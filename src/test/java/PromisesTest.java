/** Each promise of the document by itself: ordinary inputs, the edges that it names, and wrong inputs. */
public final class PromisesTest {
    private static final int BAD = -1, FULL = -2, NONE = -3;
    private static int wrong = 0;
    private static int promise = 0;

    private static void due(String call, long got, long want) {
        if (got == want) return;
        wrong++;
        System.out.println("promise " + promise + ": " + call + " answered " + got + ", due is " + want);
    }

    private static BoundGodmothers feedText(BoundGodmothers x, String text) {
        for (int i = 0; i < text.length(); i += 8) {
            int n = Math.min(8, text.length() - i);
            long eight = 0;
            for (int k = 0; k < n; k++) eight |= (long) (text.charAt(i + k) & 255) << 8 * k;
            due("feed of a text", x.feed(eight, n), i + n);
        }
        return x;
    }

    private static BoundGodmothers told(String text) {
        BoundGodmothers x = feedText(new BoundGodmothers(), text);
        int answer = x.church();
        if (answer < 0) due("church() of " + text, answer, 0);
        return x;
    }

    private static void fault(String text, int place) {
        BoundGodmothers x = new BoundGodmothers();
        x.child(3, 12, 3, 4);
        x.set(0, 7);
        feedText(x, text);
        due("church() of '" + text + "'", x.church(), -100 - place);
        due("CHILDREN behind a FAULT", x.many(0), 1);
        due("KIND behind a FAULT", x.of(0, 0), 3);
        due("PIETY behind a FAULT", x.lawOf(0), 7);
        due("THE TAPE behind a FAULT", x.many(5), 0);
    }

    public static void main(String[] args) {
        promise = 1; newObject();
        promise = 2; feeding();
        promise = 3; churches(); faults();
        promise = 4; laws();
        promise = 6; children();
        promise = 8; doing();
        promise = 9; minding();
        promise = 10; changing();
        promise = 11; godmothers();
        promise = 15; passing();
        promise = 16; draws();
        promise = 18; lucky();
        promise = 19; states();
        promise = 20; becoming();
        promise = 21; suiting();
        promise = 22; growing();
        promise = 24; choosing();
        promise = 27; bestSworn();
        promise = 28; enoughSworn();
        promise = 29; fitting();
        promise = 30; oddsOfSlips();
        promise = 32; rowsOfYears();
        promise = 36; mindsBySheet();
        promise = 37; sheets();
        promise = 40; shelves();
        promise = 42; acts();
        promise = 44; howMany();
        promise = 45; keeping();
        System.out.println(wrong == 0 ? "all promises hold" : wrong + " answers are not as due");
        if (wrong != 0) System.exit(1);
    }

    private static void newObject() {
        BoundGodmothers x = new BoundGodmothers();
        for (int what = 0; what <= 6; what++) due("many(" + what + ")", x.many(what), 0);
        int[] firstLaws = {2, 1, 9, 20};
        for (int law = 0; law < 4; law++) due("lawOf(" + law + ")", x.lawOf(law), firstLaws[law]);
        for (int g = 0; g < 8; g++) {
            due("VICE", x.godmother(g, 0), 50);
            due("EASY", x.godmother(g, 1), 0);
            due("those SWORN", x.godmother(g, 2), 0);
        }
        due("YEAR", x.state(0), 0);
        due("z", x.seed(5), 1);
        due("of(0, 0)", x.of(0, 0), BAD);
        due("again()", x.again(), NONE);
        for (int i = 0; i < 4; i++) {
            due("item of a missing SHEET", x.item(i, 0, 0), -11);
            due("taken of an empty SHELF", x.taken(i, 0), -11);
        }
        due("trace(0)", x.trace(0), NONE);
        due("row(0, 0)", x.row(0, 0), -9);
    }

    private static void feeding() {
        BoundGodmothers x = new BoundGodmothers();
        due("feed(1, 0)", x.feed(1, 0), BAD);
        due("feed(1, 9)", x.feed(1, 9), BAD);
        due("feed(1, -1)", x.feed(1, -1), BAD);
        due("feed(1, MIN)", x.feed(1, Integer.MIN_VALUE), BAD);
        due("many(5)", x.many(5), 0);
        for (int i = 1; i <= 24; i++) due("feed", x.feed(0x2020202020202020L, 8), 8 * i);
        due("feed 7", x.feed(0x2020202020202020L, 7), 199);
        due("feed 2 of 1", x.feed(0x2020L, 2), FULL);
        due("feed 9 when nearly full", x.feed(0x2020L, 9), BAD);
        due("many(5)", x.many(5), 199);
        due("feed 1 of 1", x.feed(';', 1), 200);
        due("feed 1 of 0", x.feed(32, 1), FULL);
        due("church()", x.church(), -100 - 199);
        due("many(5)", x.many(5), 0);
        // the lowest byte comes first, and bytes above n don't count
        x.feed('e' | 'a' << 8 | 's' << 16 | (long) 'y' << 24 | (long) ' ' << 32 | (long) '3' << 40 | (long) ';' << 48
            | (long) '?' << 56, 7);
        due("church()", x.church(), 0);
        due("state(4)", x.state(4), 8);
        due("church() again", x.church(), 0);
        due("state(4) anew", x.state(4), 0);
        // a text that fills THE TAPE to its last byte
        feedText(x, " ".repeat(193) + "slum 4;");
        due("church() of 200 bytes", x.church(), 0);
        due("SLUM by the last byte", x.lawOf(1), 4);
    }

    private static void churches() {
        BoundGodmothers x = new BoundGodmothers();
        due("church() of nothing", x.church(), 0);
        x = told("   ");
        due("many(0) of blanks", x.many(0), 0);
        x = told("twin to 7;reformer to 0 trait 99 fire 9 wish 0 age 99;curate to 1 age 3;urchin to 2 fire 0;"
            + "heir to 3 wish 7;child to 4 trait 0 wish 1;");
        int[][] want = {{5, 50, 5, 50, 0, 7}, {4, 99, 9, 0, 99, 0}, {3, 50, 5, 50, 3, 1}, {2, 50, 0, 50, 0, 2},
            {1, 50, 5, 7, 0, 3}, {0, 0, 5, 1, 0, 4}};
        for (int i = 0; i < 6; i++) {
            for (int what = 0; what < 6; what++) due("of(" + i + ", " + what + ")", x.of(i, what), want[i][what]);
        }
        due("many(0)", x.many(0), 6);
        x = told("piety 9;slum 0;room 99;slip 099;vice 7 is 99;vice 0 is 0;vice 7 is 1;easy 7;easy 0;easy 7;");
        due("PIETY", x.lawOf(0), 9);
        due("SLUM", x.lawOf(1), 0);
        due("ROOM", x.lawOf(2), 99);
        due("SLIP", x.lawOf(3), 99);
        due("VICE of 7", x.godmother(7, 0), 1);
        due("VICE of 0", x.godmother(0, 0), 0);
        due("EASY ones", x.state(4), 129);
        // NAMES and NUMBERS are as long as they go: no blank need part one from the other
        x = told("child to2trait7age 1 ; slum2 ;");
        due("SWORN", x.of(0, 5), 2);
        due("TRAIT", x.of(0, 1), 7);
        due("AGE", x.of(0, 4), 1);
        due("SLUM", x.lawOf(1), 2);
        x = told("child to 0;child to 0;child to 0;child to 0;child to 0;child to 0;child to 0;child to 0;slum 3;");
        due("many(0)", x.many(0), 8);
        churchesAnew();
    }

    private static void churchesAnew() {
        BoundGodmothers x = new BoundGodmothers();
        x.child(2, 10, 3, 4);
        x.child(1, 10, 3, 5);
        x.set(0, 9);
        x.vice(3, 3);
        x.easy(3, 1);
        x.years(7);
        x.seed(77);
        x.prove(1, 3);
        x.sheet(0, 1, 3);
        x.shelf(0, 0, 1);
        x.shelf(1, 1, 0);
        x.act(0, 0, 1);
        feedText(x, "child to 1 trait");
        due("church() with a FAULT", x.church(), -116);
        due("ROWS behind a FAULT", x.many(4), 3);
        feedText(x, "child to 1;");
        due("church()", x.church(), 1);
        due("PIETY as at first", x.lawOf(0), 2);
        due("VICE as at first", x.godmother(3, 0), 50);
        due("EASY as at first", x.state(4), 0);
        due("YEAR as at first", x.state(0), 0);
        due("WISH as at first", x.of(0, 3), 50);
        due("ROWS", x.many(4), 0);
        due("row(0, 0)", x.row(0, 0), -9);
        due("SHEET stays", x.item(0, 1, 2), 0);
        due("SHELF with a row stays", x.taken(1, 11), 3);
        due("SHELF with one that is gone", x.taken(0, 0), -11);
        due("THE TRACE stays", x.trace(0), 10);
        due("z stays", x.seed(0), 77);
    }

    private static void faults() {
        fault("child", 5);
        fault("child ", 6);
        fault("child to", 8);
        fault("child to 1", 10);
        fault("child to 1  ", 12);
        fault("  child to 8;", 11);
        fault("child to 1 trait 100;", 17);
        fault("child to 1 trait 0099;", 17);
        fault("child to 1 fire 10;", 16);
        fault("child to 1 wish 100;", 16);
        fault("child to 1 age 100;", 15);
        fault("child to 1 fire 1 trait 2;", 18);
        fault("child to 1 trait 1 trait 2;", 19);
        fault("child to 1 age 1 wish 2;", 17);
        fault("child to 1 trait;", 16);
        fault("child to trait 1;", 9);
        fault("child 1;", 6);
        fault("child to 1 x;", 11);
        fault("child to 1 2;", 11);
        fault("childto 1;", 0);
        fault("chil to 1;", 0);
        fault("childs to 1;", 0);
        fault("Child to 1;", 0);
        fault("xhild to 1;", 0);
        fault("easyz 1;", 0);
        fault("easy` 1;", 4);
        fault("easy{1;", 4);
        fault("easy /1;", 5);
        fault("easy :1;", 5);
        fault("easy 2; 3;", 8);
        fault("easy 2;;", 7);
        fault(";", 0);
        fault("easy 8;", 5);
        fault("easy 12345;", 5);
        fault("easy 1 is 2;", 7);
        fault("vice 8 is 2;", 5);
        fault("vice 7 is 100;", 10);
        fault("vice 7 to 10;", 7);
        fault("vice 7 is", 9);
        fault("vice 7 is;", 9);
        fault("vice 7 10;", 7);
        fault("piety 10;", 6);
        fault("slum 10;", 5);
        fault("room 100;", 5);
        fault("slip 100;", 5);
        fault("slip is;", 5);
        fault("slip -1;", 5);
        fault("slip 1,", 6);
        fault("slip\t1;", 4);
        fault("slip\n1;", 4);
        fault("slip \u00e91;", 5);
        fault("slip \0001;", 5);
        fault("to 1;", 0);
        fault("slip 5; room", 12);
        fault("child to 0;child to 0;child to 0;child to 0;child to 0;child to 0;child to 0;child to 0; twin to 0;", 89);
        fault("child to 0;child to 0;child to 0;child to 0;child to 0;child to 0;child to 0;child to 0;twin", 88);
    }

    private static void laws() {
        BoundGodmothers x = new BoundGodmothers();
        int[] first = {2, 1, 9, 20};
        int[] most = {9, 9, 99, 99};
        for (int law = 0; law < 4; law++) {
            due("set of most", x.set(law, most[law]), first[law]);
            due("set above", x.set(law, most[law] + 1), BAD);
            due("set below", x.set(law, -1), BAD);
            due("lawOf", x.lawOf(law), most[law]);
            due("set 0", x.set(law, 0), most[law]);
            due("lawOf", x.lawOf(law), 0);
        }
        promise = 5;
        for (int law : new int[] {-1, 4, Integer.MIN_VALUE, Integer.MAX_VALUE}) {
            due("set(" + law + ", 1)", x.set(law, 1), BAD);
            due("lawOf(" + law + ")", x.lawOf(law), BAD);
        }
    }

    private static void children() {
        BoundGodmothers x = new BoundGodmothers();
        int[][] bad = {{-1, 0, 0, 0}, {6, 0, 0, 0}, {0, -1, 0, 0}, {0, 100, 0, 0}, {0, 0, -1, 0}, {0, 0, 10, 0},
            {0, 0, 0, -1}, {0, 0, 0, 8}};
        for (int[] b : bad) due("child", x.child(b[0], b[1], b[2], b[3]), BAD);
        due("many(0)", x.many(0), 0);
        for (int i = 0; i < 8; i++) due("child", x.child(i % 6, 99 - i, 9 - i, i), i);
        due("a ninth", x.child(0, 0, 0, 0), FULL);
        for (int[] b : bad) due("a ninth that is BAD", x.child(b[0], b[1], b[2], b[3]), BAD);
        promise = 7;
        for (int i = 0; i < 8; i++) {
            int[] want = {i % 6, 99 - i, 9 - i, 50, 0, i};
            for (int what = 0; what < 6; what++) due("of(" + i + ", " + what + ")", x.of(i, what), want[what]);
            due("of(.., 6)", x.of(i, 6), BAD);
            due("of(.., -1)", x.of(i, -1), BAD);
        }
        due("of(8, 0)", x.of(8, 0), BAD);
        due("of(-1, 0)", x.of(-1, 0), BAD);
        // one that comes where another had been is as at first
        x.change(0, 3, 7);
        x.change(0, 4, 7);
        x.church();
        x.child(1, 2, 3, 4);
        due("WISH", x.of(0, 3), 50);
        due("AGE", x.of(0, 4), 0);
        due("of(1, 0)", x.of(1, 0), BAD);
        x = told("child to 0 wish 7 age 9;");
        x.church();
        x.child(1, 2, 3, 4);
        due("WISH behind a text", x.of(0, 3), 50);
        due("AGE behind a text", x.of(0, 4), 0);
    }

    private static void doing() {
        BoundGodmothers x = new BoundGodmothers();
        int[] moves = {7, 3, 11, 9, 22, 7};
        int[] ends = {21, 25, 14, 19, 21, 21};
        x.set(0, 6);
        x.set(1, 4);
        for (int kind = 0; kind < 6; kind++) {
            x.child(kind, 50, 7, 0);
            due("MOVES of kind " + kind, x.does(kind, 0), moves[kind]);
            due("ENDS of kind " + kind, x.does(kind, 1), ends[kind]);
        }
        x.years(1);
        due("MOVES of a twin in an odd YEAR", x.does(5, 0), 0);
        due("MOVES of a child in an odd YEAR", x.does(0, 0), 7);
        x.years(1);
        due("MOVES of a twin in an even YEAR", x.does(5, 0), 7);
        due("does(0, 2)", x.does(0, 2), BAD);
        due("does(0, -1)", x.does(0, -1), BAD);
        due("does(6, 0)", x.does(6, 0), BAD);
        due("does(-1, 1)", x.does(-1, 1), BAD);
    }

    private static void minding() {
        BoundGodmothers x = new BoundGodmothers();
        x.child(2, 33, 4, 5);
        due("mind", x.mind(0, 5, 9), 2);
        due("KIND", x.of(0, 0), 5);
        due("FIRE", x.of(0, 2), 9);
        due("TRAIT", x.of(0, 1), 33);
        due("SWORN", x.of(0, 5), 5);
        due("mind the same", x.mind(0, 5, 0), 5);
        due("mind(1, ..)", x.mind(1, 0, 0), BAD);
        due("mind(-1, ..)", x.mind(-1, 0, 0), BAD);
        due("mind KIND 6", x.mind(0, 6, 0), BAD);
        due("mind KIND -1", x.mind(0, -1, 0), BAD);
        due("mind FIRE 10", x.mind(0, 1, 10), BAD);
        due("mind FIRE -1", x.mind(0, 1, -1), BAD);
        due("KIND", x.of(0, 0), 5);
        due("FIRE", x.of(0, 2), 0);
    }

    private static void changing() {
        BoundGodmothers x = new BoundGodmothers();
        x.child(2, 33, 4, 5);
        for (int what : new int[] {1, 3, 4}) {
            int was = x.of(0, what);
            due("change to 99", x.change(0, what, 99), was);
            due("of", x.of(0, what), 99);
            due("change to 0", x.change(0, what, 0), 99);
            due("change to 100", x.change(0, what, 100), BAD);
            due("change to -1", x.change(0, what, -1), BAD);
            due("of", x.of(0, what), 0);
        }
        for (int what : new int[] {-1, 0, 2, 5, 6}) due("change " + what, x.change(0, what, 1), BAD);
        due("KIND", x.of(0, 0), 2);
        due("FIRE", x.of(0, 2), 4);
        due("SWORN", x.of(0, 5), 5);
        due("change(1, ..)", x.change(1, 1, 1), BAD);
        due("change(-1, ..)", x.change(-1, 1, 1), BAD);
    }

    private static void godmothers() {
        BoundGodmothers x = new BoundGodmothers();
        for (int i = 0; i < 3; i++) x.child(0, 50, 5, 5);
        due("swear", x.swear(1, 7), 5);
        due("swear", x.swear(1, 7), 7);
        due("swear to 8", x.swear(1, 8), BAD);
        due("swear to -1", x.swear(1, -1), BAD);
        due("swear(3, ..)", x.swear(3, 1), BAD);
        due("swear(-1, ..)", x.swear(-1, 1), BAD);
        promise = 12;
        due("vice", x.vice(7, 99), 50);
        due("vice", x.vice(7, 0), 99);
        due("vice 100", x.vice(7, 100), BAD);
        due("vice -1", x.vice(7, -1), BAD);
        due("vice(8, ..)", x.vice(8, 1), BAD);
        due("vice(-1, ..)", x.vice(-1, 1), BAD);
        promise = 13;
        due("easy", x.easy(7, 1), 0);
        due("easy", x.easy(2, 1), 0);
        due("easy", x.easy(7, 1), 1);
        due("easy", x.easy(7, 2), BAD);
        due("easy", x.easy(7, -1), BAD);
        due("easy(8, ..)", x.easy(8, 1), BAD);
        due("easy(-1, ..)", x.easy(-1, 0), BAD);
        promise = 14;
        due("VICE", x.godmother(7, 0), 0);
        due("EASY", x.godmother(7, 1), 1);
        due("those SWORN to 7", x.godmother(7, 2), 2);
        due("those SWORN to 5", x.godmother(5, 2), 5);
        due("those SWORN to 0", x.godmother(0, 2), 0);
        due("easy no more", x.easy(7, 0), 1);
        due("EASY", x.godmother(7, 1), 0);
        due("EASY", x.godmother(2, 1), 1);
        due("godmother(7, 3)", x.godmother(7, 3), BAD);
        due("godmother(7, -1)", x.godmother(7, -1), BAD);
        due("godmother(8, 0)", x.godmother(8, 0), BAD);
        due("godmother(-1, 0)", x.godmother(-1, 0), BAD);
    }

    private static void passing() {
        BoundGodmothers x = told("child to 0 trait 50; child to 0 trait 49; child to 1 trait 50; child to 2 trait 50;"
            + "child to 2 trait 73; vice 1 is 52; vice 2 is 71; easy 1; easy 2;");
        due("years(1)", x.years(1), 55 + 44 + 52 + 55 + 71);
        int[] want = {55, 44, 52, 55, 71};
        for (int i = 0; i < 5; i++) due("TRAIT", x.of(i, 1), want[i]);
        due("years(20)", x.years(20), 99 + 0 + 52 + 71 + 71);
        due("AGE", x.of(0, 4), 21);
        due("YEAR", x.state(0), 21);
        for (int n : new int[] {0, 61, -1, Integer.MIN_VALUE}) due("years(" + n + ")", x.years(n), BAD);
        due("YEAR", x.state(0), 21);
        // none moves from its ENDS on; the year before it does
        x = told("child to 0 age 20; child to 0 age 21; urchin to 0 age 13; urchin to 0 age 14; child to 0 age 99;");
        due("years(60)", x.years(60), 55 + 50 + 56 + 50 + 50);
        due("AGE", x.of(0, 4), 80);
        due("AGE at most", x.of(4, 4), 99);
        // a twin moves in even YEARS alone
        x = told("twin to 0 fire 3;");
        due("years(5)", x.years(5), 59);
        due("years(1)", x.years(1), 59);
        due("years(1)", x.years(1), 62);
    }

    private static int drawn(int[] z) {
        z[0] = z[0] * 1103515245 + 12345;
        return z[0] >>> 16;
    }

    private static void draws() {
        BoundGodmothers x = told("child to 0; heir to 1; urchin to 2; slip 60; vice 3 is 51; vice 5 is 60; easy 6;");
        due("seed", x.seed(-12345), 1);
        due("seed", x.seed(4242), -12345);
        promise = 17;
        int[] z = {4242};
        int[] sworn = {0, 1, 2};
        int slips = 0;
        for (int i = 0; i < 40; i++) {
            int one = drawn(z) % 3;
            if (drawn(z) % 100 < 60) {
                sworn[one] = drawn(z) % 8;
                slips++;
            }
            int together = x.year();
            due("TRAITS", together, x.state(1));
            for (int k = 0; k < 3; k++) due("SWORN", x.of(k, 5), sworn[k]);
            due("YEAR", x.state(0), i + 1);
        }
        due("slips", slips > 5 && slips < 35 ? 1 : 0, 1);
        due("z", x.seed(9), z[0]);
        // the slip stands before the YEAR is
        x = told("child to 0; slip 99; vice 0 is 99; vice 1 is 99; vice 2 is 99; vice 3 is 99; vice 4 is 99;");
        for (int seed = 0; seed < 20; seed++) {
            x.seed(seed);
            x.change(0, 1, 50);
            x.change(0, 4, 0);
            int got = x.year();
            due("year()", got, x.of(0, 5) < 5 ? 45 : 55);
        }
        x = new BoundGodmothers();
        due("year() of none", x.year(), 0);
        due("z of none", x.seed(1), 1);
        due("YEAR of none", x.state(0), 1);
        x = told("child to 7; slip 0;");
        for (int i = 0; i < 30; i++) x.year();
        due("SWORN without a slip", x.of(0, 5), 7);
    }

    private static void lucky() {
        String text = "child to 0 wish 30; heir to 1 wish 80; urchin to 2 wish 45; slip 70; vice 4 is 90; vice 6 is 99; easy 1;";
        BoundGodmothers x = told(text);
        x.seed(99);
        for (int n : new int[] {0, 31, -1}) due("luck(" + n + ")", x.luck(n), BAD);
        int[] z = {99};
        int lucky = 0;
        for (int n = 1; n <= 30; n++) {
            BoundGodmothers plain = told(text);
            plain.years(1);
            BoundGodmothers drawn = told(text);
            drawn.seed(z[0]);
            drawn.year();
            z[0] = drawn.seed(0);
            if (drawn.state(2) < plain.state(2)) lucky++;
            due("luck(" + n + ")", x.luck(n), lucky);
        }
        due("some are lucky", lucky > 0 && lucky < 30 ? 1 : 0, 1);
        due("z", x.seed(1), 99);
        due("YEAR", x.state(0), 0);
        due("SWORN", x.of(0, 5) + x.of(1, 5) + x.of(2, 5), 3);
        due("luck of none", new BoundGodmothers().luck(30), 0);
        // one that slips from 7 to 0 is lucky by that: found by draws that tell just this
        for (int seed = 0; seed < 2000; seed++) {
            int[] one = {seed};
            drawn(one);
            boolean slips = drawn(one) % 100 < 20;
            int to = drawn(one) % 8;
            if (!slips || to != 0 && to != 3) continue;
            x = told("child to 7 trait 60 fire 9 wish 60; vice 0 is 58; easy 0; vice 3 is 63;");
            x.seed(seed);
            due("luck of one SWORN to " + to, x.luck(1), to == 0 ? 1 : 0);
            due("year() of one", x.year(), to == 0 ? 58 : 51);
            due("z of one", x.seed(0), one[0]);
        }
    }

    private static void states() {
        BoundGodmothers x = told("child to 0 trait 40 wish 60 age 21; urchin to 0 trait 70 wish 65 age 13; heir to 0 age 25;"
            + "vice 3 is 9; easy 1; easy 7;");
        int[] want = {0, 160, 25, 5, 130, 359};
        for (int what = 0; what < 6; what++) due("state(" + what + ")", x.state(what), want[what]);
        due("state(6)", x.state(6), BAD);
        due("state(-1)", x.state(-1), BAD);
        x.years(1);
        due("state(0)", x.state(0), 1);
        due("state(3)", x.state(3), 7);
    }

    private static void becoming() {
        BoundGodmothers x = told("twin to 0 fire 4 wish 60; child to 1 trait 10 fire 2 wish 3; vice 1 is 20;");
        x.years(1);
        int[] want = {54, 54, 58, 58, 62};
        for (int n = 0; n < 5; n++) {
            promise = 20;
            due("becomes(0, " + n + ")", x.becomes(0, n), want[n]);
            promise = 23;
            due("far(0, " + n + ")", x.far(0, n), Math.abs(want[n] - 60));
        }
        promise = 20;
        due("becomes(1, 60)", x.becomes(1, 60), 0);
        promise = 23;
        due("far(1, 60)", x.far(1, 60), 3);
        for (int n : new int[] {-1, 61}) {
            promise = 20;
            due("becomes", x.becomes(0, n), BAD);
            promise = 23;
            due("far", x.far(0, n), BAD);
        }
        for (int child : new int[] {-1, 2}) {
            promise = 20;
            due("becomes", x.becomes(child, 1), BAD);
            promise = 23;
            due("far", x.far(child, 1), BAD);
        }
        due("TRAIT stays", x.of(0, 1), 54);
        due("AGE stays", x.of(0, 4), 1);
        due("YEAR stays", x.state(0), 1);
    }

    private static void suiting() {
        BoundGodmothers x = told("child to 0 fire 3 wish 70; child to 0 fire 0 wish 60; child to 0 fire 1 wish 79; "
            + "child to 0 fire 1 wish 81; child to 0 fire 9 wish 60; room 9; child to 0 trait 51 fire 9 wish 60;");
        int[] want = {4, NONE, 20, NONE, 1, 0};
        for (int i = 0; i < 6; i++) due("suited(" + i + ")", x.suited(i), want[i]);
        due("suited(6)", x.suited(6), BAD);
        due("suited(-1)", x.suited(-1), BAD);
        x.set(2, 0);
        due("suited(4)", x.suited(4), NONE);
        due("suited(5)", x.suited(5), 1);
        due("TRAIT stays", x.of(0, 1), 50);
    }

    private static void growing() {
        BoundGodmothers x = new BoundGodmothers();
        due("grown() of none", x.grown(), 0);
        x = told("child to 0 age 18; urchin to 0 age 3; reformer to 0 fire 9 age 8; heir to 0 age 15; curate to 0 age 99;");
        due("grown()", x.grown(), 15);
        due("grown() by the first", told("heir to 0; child to 0;").grown(), 25);
        x.change(2, 4, 14);
        due("grown()", x.grown(), 11);
        x.change(1, 4, 5);
        due("grown()", x.grown(), 10);
        x.years(9);
        due("grown()", x.grown(), 1);
        x.years(1);
        due("grown()", x.grown(), 0);
    }

    private static void choosing() {
        BoundGodmothers x = told("child to 0 fire 5 wish 40; child to 0 fire 5 wish 77; vice 3 is 45; vice 5 is 60; "
            + "vice 6 is 40; easy 6; easy 3;");
        due("swearFor(0, 1)", x.swearFor(0, 1), 3);
        due("swearFor(0, 2)", x.swearFor(0, 2), 5);
        due("swearFor(1, 9)", x.swearFor(1, 9), 0);
        due("swearFor(1, 5)", x.swearFor(1, 5), 0);
        x.vice(7, 77);
        x.easy(7, 1);
        due("swearFor(1, 30), the last", x.swearFor(1, 30), 7);
        promise = 25;
        due("kindFor(1, 3), 2 and 4 alike", x.kindFor(1, 3), 2);
        due("kindFor(1, 1)", x.kindFor(1, 1), 4);
        due("kindFor(0, 1)", x.kindFor(0, 1), 1);
        BoundGodmothers odd = told("child to 0;");
        odd.years(1);
        odd.change(0, 1, 50);
        due("kindFor(0, 1), the last", odd.kindFor(0, 1), 5);
        promise = 26;
        due("fireFor(1, 3)", x.fireFor(1, 3), 9);
        due("fireFor(1, 9)", x.fireFor(1, 9), 3);
        due("fireFor(0, 9)", x.fireFor(0, 9), 0);
        int[][] bad = {{0, 0}, {0, 31}, {-1, 5}, {2, 5}, {0, -1}};
        for (int[] b : bad) {
            promise = 24;
            due("swearFor", x.swearFor(b[0], b[1]), BAD);
            promise = 25;
            due("kindFor", x.kindFor(b[0], b[1]), BAD);
            promise = 26;
            due("fireFor", x.fireFor(b[0], b[1]), BAD);
        }
        due("nothing changes", x.of(0, 0) + x.of(0, 2) + x.of(0, 5), 5);
        due("n 30", x.fireFor(0, 30) < 0 || x.kindFor(0, 30) < 0 || x.swearFor(0, 30) < 0 ? 1 : 0, 0);
    }

    private static void bestSworn() {
        BoundGodmothers x = new BoundGodmothers();
        due("best of none", x.best(5), 0);
        for (int n : new int[] {0, 31, -1}) due("best(" + n + ")", x.best(n), BAD);
        // both want the one godmother that drives down; the one that wants it more has her
        x = told("child to 0 wish 20; child to 0 wish 42; vice 5 is 60;");
        due("best(2)", x.best(2), 20 + 18);
        x = told("child to 0 wish 48; child to 0 wish 20; vice 5 is 60;");
        due("best(2)", x.best(2), 12 + 20);
        x = told("child to 0;child to 0;child to 0;child to 0;child to 0;child to 0;child to 0;child to 0;");
        due("best(1) of eight", x.best(1), 40);
        x.easy(3, 1);
        due("best(1) of eight", x.best(1), 35);
        due("SWORN stays", x.godmother(0, 2), 255);
    }

    private static void enoughSworn() {
        BoundGodmothers x = new BoundGodmothers();
        due("enough of none", x.enough(5), 0);
        for (int n : new int[] {0, 31, -1}) due("enough(" + n + ")", x.enough(n), BAD);
        x = told("child to 0 wish 60; child to 0 wish 40; room 0; vice 6 is 51; vice 4 is 99;");
        due("enough(2)", x.enough(2), 1 + 16);
        due("enough(1)", x.enough(1), NONE);
        x.set(2, 20);
        due("enough(2) with room", x.enough(2), 1);
        x.set(2, 19);
        due("enough(2) with less", x.enough(2), 17);
        x = told("child to 0 wish 60; child to 0 wish 40; child to 0; room 0; easy 7; vice 6 is 51; vice 4 is 99;");
        due("enough(2) of three", x.enough(2), 1 + 16 + 128);
        x = told("child to 0 wish 55; child to 0 wish 45; room 5; easy 7; easy 5;");
        due("fewest before least", x.enough(1), 32);
        x = new BoundGodmothers();
        x.set(2, 0);
        for (int i = 0; i < 8; i++) {
            x.child(0, 50, 9, 0);
            x.change(i, 3, 20 + 8 * i);
            x.vice(i, 20 + 8 * i);
            x.easy(i, 1);
        }
        due("all are needed", x.enough(10), 255);
    }

    private static void fitting() {
        BoundGodmothers x = told("child to 3; vice 5 is 60; vice 6 is 70; easy 6; vice 7 is 56;");
        due("missing", x.fits(0, 0, 0), -11);
        x.sheet(0, 2, 0);
        due("a row of none", x.fits(0, 0, 0), 8);
        due("a row of none", x.fits(0, 0, 1), 0);
        x.sheet(0, 2, 3);
        x.put(0, 0, 45);
        x.put(0, 1, -1);
        x.put(0, 2, 35);
        due("fits 0", x.fits(0, 0, 0), 2);
        due("fits 1", x.fits(0, 0, 1), 5);
        x.put(0, 0, 55);
        due("fits 0", x.fits(0, 0, 0), 0);
        due("fits 1", x.fits(0, 0, 1), NONE);
        x.put(0, 2, 65);
        due("fits 0", x.fits(0, 0, 0), 6);
        x.sheet(1, 0, 5);
        x.put(1, 4, 70);
        for (int i = 0; i < 4; i++) x.put(1, i, 255);
        due("bytes of -1", x.fits(1, 0, 1), 6);
        x.sheet(2, 3, 40);
        for (int i = 0; i < 39; i++) x.put(2, i, -1);
        x.put(2, 39, 0);
        due("40 years", x.fits(2, 0, 0), 2);
        x.put(2, 38, -2);
        due("below -1", x.fits(2, 0, 0), 0);
        due("fits(4, ..)", x.fits(4, 0, 0), BAD);
        due("fits(-1, ..)", x.fits(-1, 0, 0), BAD);
        due("fits of no one", x.fits(0, 1, 0), BAD);
        due("fits of no one, missing", x.fits(3, 1, 0), BAD);
        due("fits what 2", x.fits(0, 0, 2), BAD);
        due("fits what -1", x.fits(0, 0, -1), BAD);
        due("SWORN stays", x.of(0, 5), 3);
    }

    private static void oddsOfSlips() {
        BoundGodmothers x = new BoundGodmothers();
        int[][] want = {{0, 0, 1, 1}, {1, 0, 4, 5}, {1, 1, 1, 5}, {2, 1, 8, 25}, {4, 2, 96, 625}, {8, 0, 65536, 390625}};
        for (int[] w : want) {
            due("odds above", x.odds(w[0], w[1], 0), w[2]);
            due("odds below", x.odds(w[0], w[1], 1), w[3]);
        }
        x.set(3, 99);
        due("odds(8, 8, 0)", x.odds(8, 8, 0), 9227446944279201L);
        due("odds(8, 8, 1)", x.odds(8, 8, 1), 10000000000000000L);
        due("odds(8, 0, 0)", x.odds(8, 0, 0), 1L);
        x.set(3, 33);
        due("odds(8, 4, 0)", x.odds(8, 4, 0), 35L * 33 * 33 * 33 * 33 * 67 * 67 * 67 * 67 / 5);
        due("odds(8, 4, 1)", x.odds(8, 4, 1), 1000000000000000L);
        x.set(3, 0);
        due("odds(5, 0, 0)", x.odds(5, 0, 0), 1);
        due("odds(5, 2, 0)", x.odds(5, 2, 0), 0);
        due("odds(5, 2, 1)", x.odds(5, 2, 1), 1);
        int[][] bad = {{-1, 0, 0}, {9, 0, 0}, {3, 4, 0}, {3, -1, 0}, {3, 1, 2}, {3, 1, -1}};
        for (int[] b : bad) due("odds", x.odds(b[0], b[1], b[2]), BAD);
        promise = 31;
        due("hope(99, 0)", x.hope(99, 0), 0);
        due("hope(99, 1)", x.hope(99, 1), 1);
        x.set(3, 15);
        due("hope(7, 0)", x.hope(7, 0), 21);
        due("hope(7, 1)", x.hope(7, 1), 20);
        due("hope(99, 0)", x.hope(99, 0), 297);
        due("hope(0, 0)", x.hope(0, 0), 0);
        due("hope(0, 1)", x.hope(0, 1), 1);
        for (int[] b : new int[][] {{-1, 0}, {100, 0}, {1, 2}, {1, -1}}) due("hope", x.hope(b[0], b[1]), BAD);
    }

    private static void rowsOfYears() {
        BoundGodmothers x = told("twin to 0 fire 4 wish 56 age 98; child to 0; child to 0;");
        due("judge without ROWS", x.judge(0), 0);
        x.change(0, 4, 19);
        due("prove", x.prove(0, 3), 3);
        int[][] want = {{54, 20, 2}, {54, 21, 2}, {54, 22, 2}};
        for (int i = 0; i < 3; i++) {
            for (int what = 0; what < 3; what++) {
                promise = 33;
                due("row(" + i + ", " + what + ")", x.row(i, what), want[i][what]);
            }
        }
        int[][] none = {{3, 0}, {-1, 0}, {0, 3}, {0, -1}, {Integer.MAX_VALUE, 0}, {Integer.MIN_VALUE, 0}};
        for (int[] b : none) {
            due("row", x.row(b[0], b[1]), -9);
            promise = 34;
            due("alterRow", x.alterRow(b[0], b[1], 1), -9);
            promise = 33;
        }
        promise = 35;
        due("judge(0)", x.judge(0), 0);
        due("judge(1)", x.judge(1), 1);
        due("judge(3)", x.judge(3), BAD);
        due("judge(-1)", x.judge(-1), BAD);
        judgesAltered(x, want);
        promise = 32;
        for (int[] b : new int[][] {{0, 0}, {0, 11}, {3, 1}, {-1, 1}, {0, -1}}) due("prove", x.prove(b[0], b[1]), BAD);
        due("ROWS stay", x.many(4), 3);
        due("prove fewer", x.prove(1, 1), 1);
        due("row(1, 0)", x.row(1, 0), -9);
        due("prove ten", x.prove(1, 10), 10);
        due("row(9, 0)", x.row(9, 0), 99);
        due("row(9, 1)", x.row(9, 1), 10);
        promise = 35;
        due("judge of one like it", x.judge(2), 0);
        x.change(2, 3, 51);
        due("judge by the WISH", x.judge(2), 1);
        x.years(1);
        due("judge from how it is now", x.judge(1), 1);
    }

    private static void judgesAltered(BoundGodmothers x, int[][] want) {
        for (int i = 2; i >= 0; i--) {
            for (int what = 0; what < 3; what++) {
                promise = 34;
                due("alterRow", x.alterRow(i, what, -9 - i), want[i][what]);
                due("row altered", x.row(i, what), -9 - i);
                promise = 35;
                due("judge altered", x.judge(0), i + 1);
                promise = 34;
                due("alterRow back", x.alterRow(i, what, want[i][what]), -9 - i);
            }
        }
        due("judge back", x.judge(0), 0);
    }

    private static void mindsBySheet() {
        BoundGodmothers x = told("child to 0; child to 0; child to 0;");
        x.sheet(0, 0, 4);
        x.put(0, 0, 100);
        x.put(0, 1, -1);
        x.put(0, 2, 99);
        x.put(0, 3, 7);
        due("minds", x.minds(0, 1, 0, 3), 3);
        due("TRAIT", x.of(0, 1), 0);
        due("TRAIT", x.of(1, 1), 99);
        due("TRAIT", x.of(2, 1), 7);
        due("minds", x.minds(0, 0, 2, 1), 1);
        due("TRAIT", x.of(2, 1), 99);
        due("minds of none", x.minds(0, 4, 2, 0), 0);
        x.sheet(1, 1, 4);
        due("BAD sheet", x.minds(4, 0, 0, 1), BAD);
        due("BAD sheet", x.minds(-1, 0, 0, 1), BAD);
        due("BAD one", x.minds(3, 0, 3, 0), BAD);
        due("BAD one", x.minds(3, 0, -1, 1), BAD);
        due("BAD n", x.minds(3, 0, 0, 9), BAD);
        due("BAD n", x.minds(3, 0, 0, -1), BAD);
        due("beyond the last", x.minds(3, 0, 1, 3), BAD);
        due("missing", x.minds(3, -1, 0, 1), -11);
        due("shorts", x.minds(1, -1, 0, 1), -13);
        due("i 5", x.minds(0, 5, 0, 0), -12);
        due("i -1", x.minds(0, -1, 0, 0), -12);
        due("i 3, n 2", x.minds(0, 3, 0, 2), -12);
        due("i MAX", x.minds(0, Integer.MAX_VALUE, 0, 2), -12);
        due("TRAIT stays", x.of(0, 1), 0);
        due("none at all", new BoundGodmothers().minds(0, 0, 0, 0), BAD);
    }

    private static void sheets() {
        BoundGodmothers x = new BoundGodmothers();
        int[] narrowed = {0x78, 0x5678, 0x12345678, 0x12345678};
        int[] low = {-128, -32768, Integer.MIN_VALUE, Integer.MIN_VALUE};
        for (int sort = 0; sort < 4; sort++) {
            promise = 37;
            due("sheet", x.sheet(sort, sort, 40), 1);
            promise = 38;
            due("put", x.put(sort, 39, 0x12345678), 1);
            due("put", x.put(sort, 0, low[sort]), 1);
            promise = 39;
            due("item", x.item(sort, sort, 39), narrowed[sort]);
            due("item", x.item(sort, sort, 0), low[sort]);
            for (int other = 0; other < 4; other++) {
                if (other != sort) due("item of another sort", x.item(sort, other, 99), -13);
            }
            due("item 40", x.item(sort, sort, 40), -12);
            due("item -1", x.item(sort, sort, -1), -12);
            promise = 38;
            due("put 40", x.put(sort, 40, 1), -12);
            due("put -1", x.put(sort, -1, 1), -12);
        }
        promise = 39;
        due("item sort 4", x.item(0, 4, 0), BAD);
        due("item sort -1", x.item(0, -1, 0), BAD);
        due("item of SHEET 4", x.item(4, 0, 0), BAD);
        due("item of SHEET -1", x.item(-1, 0, 0), BAD);
        promise = 38;
        due("put in SHEET 4", x.put(4, 0, 0), BAD);
        due("put in SHEET -1", x.put(-1, 0, 0), BAD);
        promise = 37;
        sheetsRefused(x);
        due("a row anew", x.sheet(0, 0, 3), 1);
        due("all 0", x.item(0, 0, 0), 0);
        due("fewer", x.item(0, 0, 3), -12);
        due("a row of none", x.sheet(0, 2, 0), 1);
        due("a row of none", x.item(0, 2, 0), -12);
        due("missing, n counts nothing", x.sheet(0, -1, 99), 1);
        due("missing", x.item(0, 0, 0), -11);
        due("missing", x.put(0, 0, 0), -11);
        due("missing, n counts nothing", x.sheet(0, -1, -99), 1);
    }

    private static void sheetsRefused(BoundGodmothers x) {
        due("n 41", x.sheet(0, 0, 41), BAD);
        due("n -1", x.sheet(0, 0, -1), -14);
        due("sort 4", x.sheet(0, 4, -1), BAD);
        due("sort -2", x.sheet(0, -2, -1), BAD);
        due("SHEET 4", x.sheet(4, 0, -1), BAD);
        due("SHEET -1", x.sheet(-1, -1, 0), BAD);
        due("the row stays", x.item(0, 0, 39), 0x78);
    }

    private static void shelves() {
        BoundGodmothers x = told("child to 0; heir to 0; urchin to 0; curate to 0; reformer to 0; twin to 0;");
        x.sheet(1, 2, 7);
        int[][] under = {{0}, {0, 1}, {0, 2}, {0, 1, 3}, {0, 2, 4}, {0, 5}};
        for (int i = 0; i < 6; i++) {
            promise = 40;
            due("shelf", x.shelf(3, 0, i), 1);
            promise = 41;
            for (int as = 0; as < 6; as++) {
                boolean is = false;
                for (int u : under[i]) is |= u == as;
                due("taken of " + i + " as " + as, x.taken(3, as), is ? i : -13);
            }
            for (int as = 10; as < 14; as++) due("taken as a row", x.taken(3, as), -13);
        }
        promise = 40;
        due("a child that isn't", x.shelf(3, 0, 6), BAD);
        due("a child that isn't", x.shelf(3, 0, -1), BAD);
        due("a SHEET that isn't", x.shelf(3, 1, 4), BAD);
        due("a SHEET that isn't", x.shelf(3, 1, -1), BAD);
        due("what 3", x.shelf(3, 3, 0), BAD);
        due("what -1", x.shelf(3, -1, 0), BAD);
        due("SHELF 4", x.shelf(4, 2, 0), BAD);
        due("SHELF -1", x.shelf(-1, 2, 0), BAD);
        promise = 41;
        due("it stays", x.taken(3, 5), 5);
        for (int as : new int[] {-1, 6, 9, 14}) due("taken as " + as, x.taken(3, as), BAD);
        due("taken of SHELF 4", x.taken(4, 0), BAD);
        due("taken of SHELF -1", x.taken(-1, 0), BAD);
        due("nothing, BAD as", x.taken(2, 6), BAD);
        due("nothing", x.taken(2, 13), -11);
        shelvedRows(x);
        shelvedChildren(x);
    }

    private static void shelvedRows(BoundGodmothers x) {
        due("a row", x.shelf(0, 1, 1), 1);
        due("as ints", x.taken(0, 12), 7);
        due("as longs", x.taken(0, 13), -13);
        due("as a child", x.taken(0, 0), -13);
        due("act of a row", x.act(0, 0, 5), 0);
        // the SHELF holds the row, not the SHEET
        x.sheet(1, 0, 3);
        due("the row stays", x.taken(0, 12), 7);
        x.sheet(1, -1, 0);
        due("the row stays", x.taken(0, 12), 7);
        due("a missing one", x.shelf(0, 1, 1), 1);
        due("nothing", x.taken(0, 12), -11);
        due("a row of none", x.sheet(1, 3, 0), 1);
        x.shelf(0, 1, 1);
        due("a row of none", x.taken(0, 13), 0);
        due("nothing, n counts nothing", x.shelf(0, 2, 99), 1);
        due("nothing", x.taken(0, 13), -11);
    }

    private static void shelvedChildren(BoundGodmothers x) {
        x.shelf(0, 0, 5);
        x.mind(5, 3, 0);
        due("as it is now", x.taken(0, 1), 5);
        x.church();
        due("gone", x.taken(0, 0), -11);
        due("gone", x.act(0, 0, 1), 0);
        for (int i = 0; i < 6; i++) x.child(2, 0, 0, 0);
        due("one of that number", x.taken(0, 2), 5);
    }

    /** The acts anew, by the words of the document, with a trace as text. */
    private static final class Thing {
        private final int kind, n, a;
        private final StringBuilder trace = new StringBuilder();

        Thing(int kind, int n, int a) {
            this.kind = kind;
            this.n = n;
            this.a = a;
        }

        private int parent(int of) {
            return of == 3 ? 1 : of == 4 ? 2 : 0;
        }

        private void on(int body) {
            trace.append(body).append(' ');
        }

        int kicks(int as, int x) {
            switch (as) {
                case 0: on(10); return x * 9 - n;
                case 2: on(30); return 0 - kicks(0, x);
                case 4: on(40); return kicks(2, x) ^ 6;
                case 3: on(51); return kicks(1, x) + a;
                default: return kicks(parent(as), x);
            }
        }

        int prays(int as, int x) {
            switch (as) {
                case 0: on(11); return kicks(kind, x) - a * 2;
                case 1: on(20); return prays(0, x) + 3;
                case 4: on(41); return prays(2, x) - kicks(kind, a);
                default: return prays(parent(as), x);
            }
        }

        int parts(int as, int x) {
            switch (as) {
                case 0: on(12); if (a == n) throw new IllegalStateException(); return x / (a - n);
                case 3: on(50); return parts(1, x * 2) - 4;
                case 5: on(61); return parts(0, x) + kicks(kind, n);
                default: return parts(parent(as), x);
            }
        }

        int grows(int as, int x) {
            switch (as) {
                case 0: on(13); return prays(kind, x) ^ 80;
                case 2: on(31); return grows(0, x) + parts(kind, n);
                case 5: on(60); return grows(0, x) * 3;
                default: return grows(parent(as), x);
            }
        }

        int act(int act, int x) {
            try {
                return act == 0 ? kicks(kind, x) : act == 1 ? prays(kind, x) : act == 2 ? parts(kind, x) : grows(kind, x);
            } catch (IllegalStateException e) {
                return -15;
            }
        }
    }

    private static void acts() {
        int[] numbers = {0, 1, -1, 7, -15, 1000, Integer.MAX_VALUE, Integer.MIN_VALUE, 0x55555555};
        for (int kind = 0; kind < 6; kind++) {
            for (int sworn = 0; sworn < 8; sworn++) {
                BoundGodmothers x = new BoundGodmothers();
                for (int i = 0; i < 4; i++) x.child(0, 50, 5, 0);
                x.mind(3, kind, 4);
                x.swear(3, sworn);
                x.shelf(2, 0, 3);
                for (int v : numbers) {
                    for (int act = 0; act < 4; act++) actsAlike(x, new Thing(kind, 3, sworn), act, v);
                }
            }
        }
        BoundGodmothers x = told("child to 4;");
        x.shelf(0, 0, 0);
        int[][] none = {{4, 0}, {-1, 0}, {1, 0}, {0, 4}, {0, -1}};
        for (int[] b : none) {
            promise = 42;
            due("act before", x.act(0, 3, 1), (9 - 8) ^ 80);
            due("THE TRACE before", x.many(6), 3);
            due("act", x.act(b[0], b[1], 5), 0);
            due("no TRACE", x.many(6), 0);
            promise = 43;
            due("no TRACE", x.trace(0), NONE);
        }
    }

    private static void actsAlike(BoundGodmothers x, Thing thing, int act, int v) {
        promise = 42;
        due("act(2, " + act + ", " + v + ")", x.act(2, act, v), thing.act(act, v));
        promise = 43;
        String[] bodies = thing.trace.toString().trim().split(" ");
        due("bodies of THE TRACE", x.many(6), bodies.length);
        for (int i = 0; i < bodies.length; i++) due("trace(" + i + ")", x.trace(i), Integer.parseInt(bodies[i]));
        due("trace behind the last", x.trace(bodies.length), NONE);
        due("trace(-1)", x.trace(-1), NONE);
    }

    private static void howMany() {
        BoundGodmothers x = told("child to 3; child to 3 age 21; twin to 5 age 20; easy 0; easy 1; easy 7;");
        x.prove(0, 4);
        x.feed(1, 5);
        x.shelf(0, 0, 0);
        x.act(0, 1, 1);
        int[] want = {3, 2, 3, 2, 4, 5, 2};
        for (int what = 0; what < 7; what++) due("many(" + what + ")", x.many(what), want[what]);
        x.swear(0, 0);
        due("many(3)", x.many(3), 3);
        due("many(7)", x.many(7), BAD);
        due("many(-1)", x.many(-1), BAD);
    }

    private static void keeping() {
        BoundGodmothers x = told("child to 3 trait 9 fire 4 wish 33 age 5; twin to 5; easy 7; vice 2 is 8; room 3;");
        x.years(3);
        x.seed(1234);
        due("keep()", x.keep(), 1);
        x.feed(32, 1);
        x.prove(0, 4);
        x.sheet(0, 1, 2);
        x.shelf(0, 0, 1);
        x.act(0, 0, 1);
        promise = 46;
        for (int round = 0; round < 2; round++) {
            if (round == 0) {
                x.child(0, 0, 0, 0);
                x.mind(0, 4, 9);
                x.change(0, 3, 1);
                x.swear(0, 0);
                x.easy(1, 1);
                x.vice(2, 80);
                x.set(2, 88);
                x.years(2);
                x.year();
            } else {
                x.church();
                x.prove(0, 1);
            }
            due("again()", x.again(), 2);
            int[] want = {0, 0, 4, 33, 8, 3};
            for (int what = 0; what < 6; what++) due("of(0, " + what + ")", x.of(0, what), want[what]);
            due("KIND", x.of(1, 0), 5);
            due("EASY ones", x.state(4), 128);
            due("VICE", x.godmother(2, 0), 8);
            due("ROOM", x.lawOf(2), 3);
            due("YEAR", x.state(0), 3);
            due("z", x.seed(5), 1234);
            due("THE TAPE is not kept", x.many(5), round == 0 ? 1 : 0);
            due("ROWS are not kept", x.many(4), round == 0 ? 4 : 0);
            due("THE TRACE is not kept", x.many(6), 1);
            due("a SHEET is not kept", x.item(0, 1, 1), 0);
            due("a SHELF is not kept", x.taken(0, 5), 1);
        }
        promise = 45;
        x.change(0, 1, 70);
        due("keep()", x.keep(), 1);
        x.change(0, 1, 71);
        due("again()", x.again(), 2);
        due("the latest", x.of(0, 1), 70);
        due("another has its own", new BoundGodmothers().again(), NONE);
    }
}
