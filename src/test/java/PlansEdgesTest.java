import java.math.BigInteger;

/** The sentences of section 2 on what is tried, chosen and hoped for that name a boundary case. */
public final class PlansEdgesTest {
    public static void main(String[] args) {
        becomesNow();
        suitedByRoom();
        suitedFirst();
        suitedByThen();
        grownFewest();
        farBothWays();
        swearForLeast();
        kindForLeast();
        fireForLeast();
        planRanges();
        bestOfNone();
        bestOfAll();
        bestNoTwo();
        enoughOfNone();
        enoughByRoom();
        enoughFewest();
        enoughLeast();
        enoughOfAll();
        fitsOfNone();
        fitsAny();
        fitsOneByOne();
        oddsAtTheEnds();
        fractions();
        hopeAtTheEnds();
        Answers.end();
    }

    private static void becomesNow() {
        Answers.sentence("promise 20", "BECOMES of one by n (0 to 60)");
        BoundGodmothers x = Answers.told("child to 0 trait 50 fire 1;child to 0 trait 50 fire 9;heir to 0 fire 2;");
        Answers.due("by 0", x.becomes(0, 0), 50);
        Answers.due("by 1", x.becomes(0, 1), 51);
        Answers.due("by 20", x.becomes(0, 20), 70);
        Answers.due("by 21", x.becomes(0, 21), 71);
        Answers.due("by 22", x.becomes(0, 22), 71);
        Answers.due("by 60", x.becomes(0, 60), 71);
        Answers.due("by 5, held", x.becomes(1, 5), 95);
        Answers.due("by 6, held", x.becomes(1, 6), 99);
        Answers.due("heir by 25", x.becomes(2, 25), 75);
        Answers.due("heir by 26", x.becomes(2, 26), 75);
    }

    private static int suited(String one, String more) {
        return Answers.told(one + ";" + more).suited(0);
    }

    private static void suitedByRoom() {
        Answers.sentence("section 2", "SUITED: TRAIT of one differs from its WISH by ROOM at most");
        Answers.due("9 above", suited("child to 0 trait 50 wish 59", ""), 0);
        Answers.due("10 above", suited("child to 0 trait 50 fire 1 wish 60", ""), 1);
        Answers.due("9 below", suited("child to 0 trait 50 wish 41", ""), 0);
        Answers.due("10 below", suited("child to 0 trait 50 fire 1 wish 40", "vice 0 is 51;"), 1);
        Answers.due("10 below, away", suited("child to 0 trait 50 fire 1 wish 40", ""), Answers.NONE);
        Answers.due("ROOM 0, as it is wished", suited("child to 0 trait 50 wish 50", "room 0;"), 0);
        Answers.due("ROOM 0, 1 off", suited("child to 0 trait 50 fire 1 wish 51", "room 0;"), 1);
        Answers.due("ROOM 0, by twos past it", suited("child to 0 trait 50 fire 2 wish 51", "room 0;"), Answers.NONE);
        Answers.due("ROOM 99", suited("child to 0 trait 0 fire 0 wish 99", "room 99;"), 0);
        Answers.due("ROOM 98", suited("child to 0 trait 0 fire 0 wish 99", "room 98;"), Answers.NONE);
    }

    private static void suitedFirst() {
        Answers.sentence("section 2", "SUITED: behind the fewest YEARS .. first");
        Answers.due("it goes on past its WISH", suited("child to 0 trait 50 fire 9 wish 69", "room 1;"), 2);
        Answers.due("it leaves its WISH", suited("child to 0 trait 50 fire 9 wish 50", "room 1;"), 0);
        BoundGodmothers x = Answers.told("twin to 0 trait 50 fire 5 wish 60;room 5;");
        Answers.due("a twin in an even YEAR", x.suited(0), 1);
        x.years(1);
        x.change(0, 1, 50);
        Answers.due("a twin in an odd YEAR", x.suited(0), 2);
    }

    private static void suitedByThen() {
        Answers.sentence("promise 21", "SUITED. BAD; NONE: not by then");
        Answers.due("by its last YEAR", suited("heir to 0 fire 2 wish 84", ""), 25);
        Answers.due("by none", suited("heir to 0 fire 2 wish 85", ""), Answers.NONE);
        Answers.due("of age", suited("child to 0 trait 50 wish 60 age 21", ""), Answers.NONE);
        Answers.due("of age and as wished", suited("child to 0 trait 50 wish 59 age 99", ""), 0);
    }

    private static void grownFewest() {
        Answers.sentence("section 2", "GROWN: behind the fewest (0 to 60) no one's AGE is less than its ENDS first");
        Answers.due("without any", new BoundGodmothers().grown(), 0);
        Answers.due("an heir, the longest of all", Answers.told("heir to 0;").grown(), 25);
        Answers.due("a curate without PIETY", Answers.told("curate to 0;piety 0;").grown(), 25);
        Answers.due("a curate with all PIETY", Answers.told("curate to 0;piety 9;").grown(), 16);
        Answers.due("a reformer with all FIRE", Answers.told("reformer to 0 fire 9;").grown(), 23);
        Answers.due("an urchin", Answers.told("urchin to 0;").grown(), 14);
        Answers.due("one YEAR before", Answers.told("child to 0 age 20;").grown(), 1);
        Answers.due("at its ENDS", Answers.told("child to 0 age 21;").grown(), 0);
        Answers.due("the last of eight", eightOfAge(7).grown(), 21);
        Answers.due("the first of eight", eightOfAge(0).grown(), 21);
        Answers.due("none of eight", eightOfAge(8).grown(), 0);
    }

    private static BoundGodmothers eightOfAge(int but) {
        BoundGodmothers x = new BoundGodmothers();
        for (int i = 0; i < 8; i++) {
            x.child(0, 50, 5, 0);
            if (i != but) x.change(i, 4, 99);
        }
        return x;
    }

    private static void farBothWays() {
        Answers.sentence("promise 23", "FAR of one by n (0 to 60)");
        BoundGodmothers x = Answers.told("child to 0 trait 50 fire 9 wish 0;child to 0 trait 0 fire 0 wish 99;child to 0 wish 50;");
        Answers.due("above, by 0", x.far(0, 0), 50);
        Answers.due("above, by 60", x.far(0, 60), 99);
        Answers.due("below, by 0", x.far(1, 0), 99);
        Answers.due("below, by 60", x.far(1, 60), 99);
        Answers.due("as wished, by 0", x.far(2, 0), 0);
        Answers.due("as wished no more", x.far(2, 1), 5);
    }

    private static void swearForLeast() {
        Answers.sentence("section 2", "SWEAR FOR: it is least FAR by n; of several the least");
        BoundGodmothers x = Answers.told("child to 7 wish 90;child to 7 wish 10;child to 7 age 99;child to 7 fire 0;");
        Answers.due("all alike", x.swearFor(0, 1), 0);
        Answers.due("of age", x.swearFor(2, 30), 0);
        Answers.due("without FIRE", x.swearFor(3, 30), 0);
        x.vice(7, 51);
        Answers.due("the last alone", x.swearFor(1, 1), 7);
        x.vice(5, 99);
        Answers.due("5 and 7", x.swearFor(1, 1), 5);
        x.vice(0, 99);
        Answers.due("0, 5 and 7", x.swearFor(1, 30), 0);
        Answers.due("all but these", x.swearFor(0, 30), 1);
        Answers.due("SWORN stays", x.of(0, 5), 7);
        Answers.due("all move it from its WISH", Answers.told("child to 7;").swearFor(0, 1), 0);
    }

    private static void kindForLeast() {
        Answers.sentence("section 2", "KIND FOR: the KIND as one of which it is; of several the least");
        BoundGodmothers x = Answers.told("twin to 0 age 99;twin to 0 age 14;twin to 0 fire 1;twin to 0 wish 99;twin to 0 fire 0;");
        Answers.due("of age, all alike", x.kindFor(0, 30), 0);
        Answers.due("an urchin of 14 moves no more", x.kindFor(1, 1), 2);
        Answers.due("an heir with FIRE 1 stays", x.kindFor(2, 1), 1);
        Answers.due("a reformer moves most", x.kindFor(3, 1), 4);
        Answers.due("a child comes to 99 too", x.kindFor(3, 30), 0);
        x.set(1, 0);
        Answers.due("without FIRE and SLUM", x.kindFor(4, 30), 0);
        x.years(1);
        x.mind(4, 0, 3);
        Answers.due("a twin in an odd YEAR stays", x.kindFor(4, 1), 5);
        Answers.due("KIND stays", x.of(4, 0), 0);
    }

    private static void fireForLeast() {
        Answers.sentence("section 2", "FIRE FOR: the FIRE (0 to 9) with which it is; of several the least");
        BoundGodmothers x = Answers.told("child to 0;child to 0 wish 99;heir to 0 wish 99;heir to 0;reformer to 0 wish 99 age 15;"
            + "child to 0 age 99;slum 0;");
        Answers.due("as wished", x.fireFor(0, 1), 0);
        Answers.due("the most", x.fireFor(1, 1), 9);
        Answers.due("half of 8 and of 9", x.fireFor(2, 1), 8);
        Answers.due("half of 0 and of 1", x.fireFor(3, 30), 0);
        Answers.due("FIRE by which it ENDS", x.fireFor(4, 30), 6);
        Answers.due("of age, all alike", x.fireFor(5, 30), 0);
        Answers.due("held to 99", x.fireFor(1, 30), 3);
        Answers.due("FIRE stays", x.of(1, 2), 5);
    }

    private static void planRanges() {
        Answers.sentence("promises 24 to 28", "n (1 to 30)");
        // it is as wished behind its last YEAR, the 25th, and not before
        BoundGodmothers x = Answers.told("heir to 0 trait 50 fire 2 wish 75;vice 1 is 60;easy 2;vice 2 is 75;room 0;");
        Answers.due("swearFor by 1", x.swearFor(0, 1), 0);
        Answers.due("swearFor by 30", x.swearFor(0, 30), 0);
        Answers.due("best by 1", x.best(1), 24);
        Answers.due("best by 24", x.best(24), 1);
        Answers.due("best by 25", x.best(25), 0);
        Answers.due("best by 30", x.best(30), 0);
        Answers.due("enough by 24", x.enough(24), Answers.NONE);
        Answers.due("enough by 25", x.enough(25), 1);
        Answers.due("enough by 30", x.enough(30), 1);
        Answers.due("fireFor by 25", x.fireFor(0, 25), 2);
        Answers.due("fireFor by 24", x.fireFor(0, 24), 2);
        Answers.due("fireFor by 30", x.fireFor(0, 30), 2);
        Answers.due("kindFor by 30", x.kindFor(0, 30), 1);
    }

    private static void bestOfNone() {
        Answers.sentence("section 2", "BEST by n: the least that all can be FAR by n, together");
        Answers.due("without any", new BoundGodmothers().best(1), 0);
        Answers.due("without any", new BoundGodmothers().best(30), 0);
        Answers.due("one", Answers.told("child to 0 wish 45;vice 7 is 99;").best(1), 0);
        BoundGodmothers x = new BoundGodmothers();
        for (int i = 0; i < 8; i++) {
            x.child(0, 0, 0, 0);
            x.change(i, 3, 99);
        }
        Answers.due("eight as FAR as can be", x.best(30), 792);
        Answers.due("SWORN stays", x.godmother(0, 2), 255);
    }

    private static void bestOfAll() {
        Answers.sentence("section 2", "BEST: if each is SWORN anew, no two to one GODMOTHER: eight to eight");
        BoundGodmothers x = new BoundGodmothers();
        for (int i = 0; i < 8; i++) {
            x.vice(i, 10 * i + 5);
            x.easy(i, 1);
        }
        for (int i = 0; i < 8; i++) {
            x.child(0, 50, 9, 0);
            x.change(i, 3, 10 * ((3 * i + 1) % 8) + 5);
        }
        Answers.due("each has its own", x.best(30), 0);
        x.change(3, 3, x.of(4, 3));
        int apart = Math.abs((3 * 3 + 1) % 8 - (3 * 4 + 1) % 8) * 10;
        Answers.due("two want one, another is left", x.best(30), apart);
    }

    private static void bestNoTwo() {
        Answers.sentence("section 2", "BEST: no two to one GODMOTHER");
        BoundGodmothers x = Answers.told("child to 0 wish 45;child to 0 wish 45;vice 4 is 60;");
        Answers.due("she drives one down, the other goes up", x.best(1), 10);
        x.vice(7, 51);
        Answers.due("two drive both down", x.best(1), 0);
    }

    private static void enoughOfNone() {
        Answers.sentence("section 2", "ENOUGH: (0, if there are no CHILDREN)");
        Answers.due("by 1", new BoundGodmothers().enough(1), 0);
        Answers.due("by 30", new BoundGodmothers().enough(30), 0);
        Answers.due("one that needs no one in particular", Answers.told("child to 0 fire 0;").enough(1), 1);
    }

    private static void enoughByRoom() {
        Answers.sentence("section 2", "ENOUGH: FAR by n by ROOM at most");
        Answers.due("5 off, ROOM 5", Answers.told("child to 7;room 5;").enough(1), 1);
        Answers.due("5 off, ROOM 4", Answers.told("child to 7;room 4;").enough(1), Answers.NONE);
        Answers.due("as wished, ROOM 0", Answers.told("child to 7;room 0;easy 6;").enough(1), 64);
        Answers.due("one of two by none", Answers.told("child to 7;child to 7 wish 0;easy 6;").enough(1), Answers.NONE);
        Answers.due("ROOM 99", Answers.told("child to 7 trait 0 fire 0 wish 99;room 99;").enough(1), 1);
    }

    private static void enoughFewest() {
        Answers.sentence("section 2", "ENOUGH: the set of fewest GODMOTHERS");
        Answers.due("7 alone, not 0 and 1", Answers.told("child to 0 trait 40 wish 42;child to 0 trait 40 wish 38;room 3;"
            + "vice 0 is 40;vice 1 is 41;vice 7 is 40;easy 7;").enough(1), 128);
    }

    private static void enoughLeast() {
        Answers.sentence("section 2", "ENOUGH: of several the least");
        // 1 and 2 (6), 0 and 3 (9), 2 and 3 (12) are enough: as sets 6 is the least, though 9 begins with 0
        BoundGodmothers x = Answers.told("room 4;vice 0 is 25;vice 1 is 65;vice 2 is 95;easy 2;vice 3 is 45;easy 3;"
            + "child to 0 trait 10 fire 3 wish 20;child to 0 trait 60 fire 4 wish 70;child to 0 trait 60 fire 5 wish 50;");
        Answers.due("1 and 2", x.enough(2), 6);
        x.vice(1, 50);
        Answers.due("0 and 3", x.enough(2), 9);
        x.vice(0, 61);
        Answers.due("0 drives down as 1 did", x.enough(2), 5);
    }

    private static void enoughOfAll() {
        Answers.sentence("section 2", "ENOUGH: eight of eight");
        BoundGodmothers x = new BoundGodmothers();
        x.set(2, 0);
        for (int i = 0; i < 8; i++) {
            x.child(0, 50, 9, 0);
            x.change(i, 3, 11 * i);
            x.vice(i, 11 * i);
            x.easy(i, 1);
        }
        Answers.due("each needs its own", x.enough(30), 255);
        x.change(0, 3, 77);
        Answers.due("one is not needed", x.enough(30), 254);
        x.change(0, 3, 78);
        Answers.due("one has none", x.enough(30), Answers.NONE);
    }

    private static void fitsOfNone() {
        Answers.sentence("promise 29", "FITS by a SHEET of no numbers, of all sorts");
        BoundGodmothers x = Answers.told("child to 3;");
        for (int sort = 0; sort < 4; sort++) {
            x.sheet(0, sort, 0);
            Answers.due("how many", x.fits(0, 0, 0), 8);
            Answers.due("the least", x.fits(0, 0, 1), 0);
        }
        x.sheet(0, -1, 0);
        Answers.due("missing, how many", x.fits(0, 0, 0), -11);
        Answers.due("missing, the least", x.fits(0, 0, 1), -11);
    }

    private static void fitsAny() {
        Answers.sentence("section 2", "FITS: (-1: any)");
        BoundGodmothers x = Answers.told("child to 3;");
        int[][] table = {{-1, 8}, {-2, 0}, {0, 0}, {55, 8}, {54, 0}, {56, 0}, {99, 0}, {100, 0}, {-11, 0}};
        for (int sort = 0; sort < 4; sort++) {
            x.sheet(0, sort, 1);
            for (int[] t : table) {
                x.put(0, 0, t[0]);
                Answers.due("how many by " + t[0] + ", sort " + sort, x.fits(0, 0, 0), t[1]);
                Answers.due("the least by " + t[0] + ", sort " + sort, x.fits(0, 0, 1), t[1] == 0 ? Answers.NONE : 0);
            }
        }
        int[] wide = {255, 65535, -1, -1};
        for (int sort = 0; sort < 4; sort++) {
            x.sheet(0, sort, 1);
            x.put(0, 0, wide[sort]);
            Answers.due("narrowed to -1, sort " + sort, x.fits(0, 0, 0), 8);
        }
        x.sheet(0, 2, 1);
        x.put(0, 0, 255);
        Answers.due("255 is not -1 among ints", x.fits(0, 0, 0), 0);
        x.put(0, 0, 55 + 256);
        Answers.due("311 is not 55 among ints", x.fits(0, 0, 0), 0);
    }

    private static void fitsOneByOne() {
        Answers.sentence("section 2", "FITS: behind 1, 2, .. YEARS, what the numbers of the SHEET tell, one by one");
        BoundGodmothers x = Answers.told("child to 3 fire 1;vice 5 is 60;vice 6 is 52;easy 6;");
        x.sheet(1, 0, 40);
        for (int i = 0; i < 40; i++) x.put(1, i, Math.min(71, 51 + i));
        Answers.due("40 YEARS up", x.fits(1, 0, 0), 6);
        x.put(1, 39, 70);
        Answers.due("the last is another", x.fits(1, 0, 0), 0);
        x.put(1, 39, -1);
        x.put(1, 0, 50);
        Answers.due("the first is as now", x.fits(1, 0, 0), 0);
        for (int i = 0; i < 40; i++) x.put(1, i, Math.max(29, 49 - i));
        Answers.due("40 YEARS down", x.fits(1, 0, 0), 1);
        Answers.due("40 YEARS down", x.fits(1, 0, 1), 5);
        for (int i = 0; i < 40; i++) x.put(1, i, i == 0 ? 51 : 52);
        Answers.due("40 YEARS to her", x.fits(1, 0, 1), 6);
        x.change(0, 4, 98);
        for (int i = 0; i < 40; i++) x.put(1, i, 50);
        Answers.due("of age", x.fits(1, 0, 0), 8);
    }

    private static void oddsAtTheEnds() {
        Answers.sentence("promise 30", "ODDS by n (0 to 8), k (0 to n)");
        BoundGodmothers x = new BoundGodmothers();
        for (int slip : new int[] {0, 1, 20, 50, 99}) {
            x.set(3, slip);
            Answers.due("of no births none, above", x.odds(0, 0, 0), 1);
            Answers.due("of no births none, below", x.odds(0, 0, 1), 1);
        }
        x.set(3, 99);
        Answers.due("all of 8 by 99, above", x.odds(8, 8, 0), 9227446944279201L);
        Answers.due("all of 8 by 99, below", x.odds(8, 8, 1), 10000000000000000L);
        Answers.due("none of 8 by 99, above", x.odds(8, 0, 0), 1);
        Answers.due("none of 8 by 99, below", x.odds(8, 0, 1), 10000000000000000L);
        x.set(3, 50);
        Answers.due("half of 8 by 50, above", x.odds(8, 4, 0), 35);
        Answers.due("half of 8 by 50, below", x.odds(8, 4, 1), 128);
    }

    private static void fractions() {
        Answers.sentence("terms", "without a common divisor, below above 0 (0 is 0 by 1)");
        BoundGodmothers x = new BoundGodmothers();
        for (int slip = 0; slip <= 99; slip++) {
            if (slip % 5 == 0) x = new BoundGodmothers();
            x.set(3, slip);
            for (int n = 0; n <= 8; n++) {
                for (int k = 0; k <= n; k++) fraction(x, slip, n, k);
            }
        }
        x.set(3, 0);
        for (int k = 1; k <= 8; k++) {
            Answers.due("no slips, above", x.odds(8, k, 0), 0);
            Answers.due("no slips, below", x.odds(8, k, 1), 1);
        }
    }

    private static void fraction(BoundGodmothers x, int slip, int n, int k) {
        BigInteger ways = BigInteger.ONE;
        for (int i = 0; i < k; i++) ways = ways.multiply(BigInteger.valueOf(n - i)).divide(BigInteger.valueOf(i + 1));
        BigInteger above = ways.multiply(BigInteger.valueOf(slip).pow(k)).multiply(BigInteger.valueOf(100 - slip).pow(n - k));
        BigInteger below = BigInteger.valueOf(100).pow(n);
        BigInteger common = above.gcd(below);
        Answers.due("odds(" + n + ", " + k + ", 0) by " + slip, x.odds(n, k, 0), above.divide(common).longValueExact());
        Answers.due("odds(" + n + ", " + k + ", 1) by " + slip, x.odds(n, k, 1), below.divide(common).longValueExact());
    }

    private static void hopeAtTheEnds() {
        Answers.sentence("promise 31", "HOPE by n (0 to 99)");
        int[][] table = {{0, 20, 0, 1}, {99, 0, 0, 1}, {0, 0, 0, 1}, {99, 99, 9801, 100}, {1, 1, 1, 100}, {99, 20, 99, 5},
            {50, 50, 25, 1}, {1, 99, 99, 100}, {99, 1, 99, 100}, {5, 20, 1, 1}};
        for (int[] t : table) {
            BoundGodmothers x = new BoundGodmothers();
            x.set(3, t[1]);
            Answers.due("hope(" + t[0] + ", 0) by " + t[1], x.hope(t[0], 0), t[2]);
            Answers.due("hope(" + t[0] + ", 1) by " + t[1], x.hope(t[0], 1), t[3]);
        }
    }
}
