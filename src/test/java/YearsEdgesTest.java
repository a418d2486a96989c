/** The sentences of the terms, of section 1 (laws, children, a year) and of years by draws that name a boundary case. */
public final class YearsEdgesTest {
    private static final String[] KINDS = {"child", "heir", "urchin", "curate", "reformer", "twin"};

    public static void main(String[] args) {
        quotientsAreCut();
        setsAreBits();
        asAtFirst();
        easyOrNot();
        movesAtTheEnds();
        endsAtTheEnds();
        endsNoMore();
        awayFromHer();
        heldAbove();
        heldBelow();
        notBeyond();
        ageAtMost();
        yearsCount();
        twinsInEvenYears();
        together();
        drawsWrap();
        drawsOfNone();
        belowSlip();
        luckIsLess();
        luckOfNone();
        luckGoesOn();
        Answers.end();
    }

    private static void quotientsAreCut() {
        Answers.sentence("terms", "Quotients are cut towards 0");
        int[] halves = {0, 0, 1, 1, 2, 2, 3, 3, 4, 4};
        BoundGodmothers x = Answers.told("heir to 2;child to 0;child to 0;");
        for (int fire = 0; fire <= 9; fire++) {
            x.mind(0, 1, fire);
            Answers.due("MOVES of an heir with FIRE " + fire, x.does(0, 0), halves[fire]);
        }
        x.shelf(0, 0, 0);
        x.shelf(1, 0, 2);
        int[][] parted = {{7, 3}, {-7, -3}, {1, 0}, {-1, 0}, {2, 1}, {-2, -1}, {0, 0}};
        for (int[] p : parted) {
            Answers.due(p[0] + " by 2", x.act(0, 2, p[0]), p[1]);
            Answers.due(p[0] + " by -2", x.act(1, 2, p[0]), -p[1]);
        }
    }

    private static void setsAreBits() {
        Answers.sentence("terms", "Sets are told by bits");
        BoundGodmothers x = new BoundGodmothers();
        Answers.due("none SWORN to her", x.godmother(7, 2), 0);
        Answers.due("none of age", x.state(3), 0);
        for (int i = 0; i < 8; i++) {
            x.child(0, 50, 5, 7);
            Answers.due("those SWORN to 7", x.godmother(7, 2), (1 << i + 1) - 1);
            x.easy(i, 1);
            Answers.due("EASY ones", x.state(4), (1 << i + 1) - 1);
            x.change(i, 4, 21);
            Answers.due("those of age", x.state(3), (1 << i + 1) - 1);
        }
        for (int i = 0; i < 7; i++) {
            x.swear(i, 0);
            x.easy(i, 0);
            x.change(i, 4, 20);
        }
        Answers.due("the last SWORN to 7", x.godmother(7, 2), 128);
        Answers.due("the others SWORN to 0", x.godmother(0, 2), 127);
        Answers.due("the last EASY one", x.state(4), 128);
        Answers.due("the last of age", x.state(3), 128);
    }

    private static void asAtFirst() {
        Answers.sentence("section 1", "at first");
        BoundGodmothers x = new BoundGodmothers();
        int[] laws = {2, 1, 9, 20};
        for (int law = 0; law < 4; law++) Answers.due("LAW " + law, x.lawOf(law), laws[law]);
        Answers.due("YEAR", x.state(0), 0);
        Answers.due("EASY ones", x.state(4), 0);
        Answers.due("VICES together", x.state(5), 400);
        x.child(5, 99, 9, 7);
        Answers.due("WISH", x.of(0, 3), 50);
        Answers.due("AGE", x.of(0, 4), 0);
        Answers.due("z", x.seed(0), 1);
        // one that comes where another had been
        x.change(0, 3, 9);
        x.years(9);
        x.church();
        x.child(5, 99, 9, 7);
        Answers.due("WISH", x.of(0, 3), 50);
        Answers.due("AGE", x.of(0, 4), 0);
        x = Answers.told("child to 0 wish 9 age 9;");
        x.church();
        x.child(5, 99, 9, 7);
        Answers.due("WISH behind a text", x.of(0, 3), 50);
        Answers.due("AGE behind a text", x.of(0, 4), 0);
        Answers.sentence("promise 1", "No CHILDREN; nothing is kept");
        x = new BoundGodmothers();
        for (int what = 0; what <= 6; what++) Answers.due("many(" + what + ")", x.many(what), 0);
        Answers.due("again()", x.again(), Answers.NONE);
    }

    private static void easyOrNot() {
        Answers.sentence("promise 13", "She is EASY (v 1) or not (0): what she was");
        for (int her = 0; her < 8; her++) {
            BoundGodmothers x = new BoundGodmothers();
            int was = 0;
            for (int v : new int[] {0, 1, 1, 0, 0}) {
                Answers.due("easy(" + her + ", " + v + ")", x.easy(her, v), was);
                Answers.due("godmother(" + her + ", 1)", x.godmother(her, 1), v);
                Answers.due("EASY ones", x.state(4), v << her);
                was = v;
            }
        }
    }

    private static void movesAtTheEnds() {
        Answers.sentence("section 1", "MOVES");
        int[][] table = {{0, 0, 0, 0, 0, 0, 0, 0, 0}, {1, 0, 0, 1, 0, 1, 0, 2, 1}, {9, 9, 9, 9, 4, 18, 13, 36, 9},
            {0, 9, 9, 0, 0, 9, 9, 18, 0}, {9, 0, 0, 9, 4, 9, 4, 18, 9}, {1, 0, 9, 1, 0, 10, 0, 20, 1}, {1, 9, 0, 1, 0, 1, 9, 2, 1}};
        for (int[] t : table) {
            BoundGodmothers x = Answers.told("piety " + t[1] + ";slum " + t[2] + ";");
            for (int kind = 0; kind < 6; kind++) {
                x.child(kind, 50, t[0], 0);
                Answers.due("MOVES of " + KINDS[kind] + " with FIRE " + t[0], x.does(kind, 0), t[3 + kind]);
                Answers.due("TRAIT behind it", x.becomes(kind, 1), Math.min(99, 50 + t[3 + kind]));
            }
        }
    }

    private static void endsAtTheEnds() {
        Answers.sentence("section 1", "ENDS (the AGE from which on it moves no more)");
        int[][] table = {{0, 0, 21, 25, 14, 25, 14, 21}, {9, 9, 21, 25, 14, 16, 23, 21}, {1, 8, 21, 25, 14, 17, 15, 21}};
        for (int[] t : table) {
            BoundGodmothers x = Answers.told("piety " + t[1] + ";slum 9;");
            for (int kind = 0; kind < 6; kind++) {
                x.child(kind, 50, t[0], 0);
                Answers.due("ENDS of " + KINDS[kind] + " with FIRE " + t[0], x.does(kind, 1), t[2 + kind]);
            }
        }
    }

    private static void endsNoMore() {
        Answers.sentence("section 1", "each whose AGE is less than its ENDS");
        int[] ends = {21, 25, 14, 23, 19, 21};
        int[] moves = {5, 2, 6, 4, 12, 5};
        for (int kind = 0; kind < 6; kind++) {
            int second = kind == 5 ? 0 : moves[kind];
            int[][] table = {{ends[kind] - 2, moves[kind] + second}, {ends[kind] - 1, moves[kind]}, {ends[kind], 0},
                {ends[kind] + 1, 0}, {99, 0}};
            for (int[] t : table) {
                BoundGodmothers x = Answers.told(KINDS[kind] + " to 0 age " + t[0] + ";");
                String one = KINDS[kind] + " of AGE " + t[0];
                boolean isOfAge = t[0] >= ends[kind];
                Answers.due("those not of age, " + one, x.many(1), isOfAge ? 0 : 1);
                Answers.due("those of age, " + one, x.state(3), isOfAge ? 1 : 0);
                Answers.due("GROWN, " + one, x.grown(), Math.max(0, ends[kind] - t[0]));
                Answers.due("BECOMES by 60, " + one, x.becomes(0, 60), 50 + t[1]);
                Answers.due("60 YEARS, " + one, x.years(60), 50 + t[1]);
            }
        }
    }

    private static int behindOne(int trait, int fire, int vice, boolean isEasy) {
        BoundGodmothers x = Answers.told("child to 6 trait " + trait + " fire " + fire + ";vice 6 is " + vice + ";"
            + (isEasy ? "easy 6;" : ""));
        int becomes = x.becomes(0, 1);
        Answers.due("a YEAR as BECOMES tells it", x.years(1), becomes);
        Answers.due("TRAIT as the YEAR tells it", x.of(0, 1), becomes);
        return becomes;
    }

    private static void awayFromHer() {
        Answers.sentence("section 1", "as much more as it MOVES, if it is her VICE or more, else as much less");
        Answers.due("TRAIT above VICE", behindOne(41, 3, 40, false), 44);
        Answers.due("TRAIT at VICE", behindOne(40, 3, 40, false), 43);
        Answers.due("TRAIT below VICE", behindOne(39, 3, 40, false), 36);
        Answers.due("TRAIT 0, VICE 0", behindOne(0, 3, 0, false), 3);
        Answers.due("TRAIT 98, VICE 99", behindOne(98, 3, 99, false), 95);
        Answers.due("FIRE 0", behindOne(40, 0, 40, false), 40);
    }

    private static void heldAbove() {
        Answers.sentence("section 1", "(held to 0 to 99): above");
        Answers.due("90 and 9", behindOne(90, 9, 50, false), 99);
        Answers.due("91 and 9", behindOne(91, 9, 50, false), 99);
        Answers.due("89 and 9", behindOne(89, 9, 50, false), 98);
        Answers.due("99 and 9", behindOne(99, 9, 99, false), 99);
        Answers.due("99 and 1", behindOne(99, 1, 50, false), 99);
    }

    private static void heldBelow() {
        Answers.sentence("section 1", "(held to 0 to 99): below");
        Answers.due("9 less 9", behindOne(9, 9, 50, false), 0);
        Answers.due("8 less 9", behindOne(8, 9, 50, false), 0);
        Answers.due("10 less 9", behindOne(10, 9, 50, false), 1);
        Answers.due("0 less 9", behindOne(0, 9, 99, false), 0);
        Answers.due("0 less 9, VICE 1", behindOne(0, 9, 1, false), 0);
    }

    private static void notBeyond() {
        Answers.sentence("section 1", "if she is EASY, it comes as much nearer to her VICE (not beyond)");
        int[][] table = {{50, 50}, {51, 50}, {53, 50}, {54, 50}, {55, 51}, {49, 50}, {47, 50}, {46, 50}, {45, 49}, {99, 95}, {0, 4}};
        for (int[] t : table) Answers.due("TRAIT " + t[0] + " by 4 to 50", behindOne(t[0], 4, 50, true), t[1]);
        Answers.due("99 to 99", behindOne(99, 9, 99, true), 99);
        Answers.due("95 to 99", behindOne(95, 9, 99, true), 99);
        Answers.due("0 to 0", behindOne(0, 9, 0, true), 0);
        Answers.due("5 to 0", behindOne(5, 9, 0, true), 0);
        Answers.due("0 to 99", behindOne(0, 9, 99, true), 9);
        Answers.due("FIRE 0", behindOne(20, 0, 99, true), 20);
    }

    private static void ageAtMost() {
        Answers.sentence("section 1", "AGE of each is 1 more (99 at most)");
        BoundGodmothers x = Answers.told("child to 0;child to 0 age 97;child to 0 age 98;child to 0 age 99;child to 0 age 21;");
        int[][] ages = {{1, 98, 99, 99, 22}, {2, 99, 99, 99, 23}, {62, 99, 99, 99, 83}, {99, 99, 99, 99, 99}};
        int[] years = {1, 1, 60, 60};
        for (int i = 0; i < years.length; i++) {
            x.years(years[i]);
            for (int k = 0; k < 5; k++) Answers.due("AGE of " + k, x.of(k, 4), ages[i][k]);
        }
    }

    private static void yearsCount() {
        Answers.sentence("promise 15", "n YEARS (1 to 60): TRAITS of all together then");
        BoundGodmothers x = Answers.told("child to 0 trait 99 fire 0;child to 0 trait 0 fire 0;");
        Answers.due("years(1)", x.years(1), 99);
        Answers.due("YEAR", x.state(0), 1);
        Answers.due("years(60)", x.years(60), 99);
        Answers.due("YEAR", x.state(0), 61);
        x = new BoundGodmothers();
        Answers.due("years(60) without any", x.years(60), 0);
        Answers.due("YEAR without any", x.state(0), 60);
        for (int i = 0; i < 400; i++) x.years(60);
        Answers.due("YEAR behind 400 more", x.state(0), 24060);
    }

    private static void twinsInEvenYears() {
        Answers.sentence("section 1", "twin: as child, in even YEARS; else 0");
        BoundGodmothers x = Answers.told("twin to 0 fire 3;");
        int[] traits = {53, 53, 56, 56, 59};
        for (int year = 0; year < 5; year++) {
            Answers.due("MOVES in YEAR " + year, x.does(0, 0), year % 2 == 0 ? 3 : 0);
            Answers.due("BECOMES by 2", x.becomes(0, 2), traits[year] + (year % 2 == 0 ? 0 : 3));
            Answers.due("YEAR " + year, x.years(1), traits[year]);
        }
    }

    private static void together() {
        Answers.sentence("promise 19", "together");
        BoundGodmothers x = new BoundGodmothers();
        for (int what = 0; what < 5; what++) Answers.due("state(" + what + ") without any", x.state(what), 0);
        for (int i = 0; i < 8; i++) {
            x.child(0, 99, 9, 0);
            x.change(i, 3, 0);
            x.vice(i, 99);
        }
        Answers.due("TRAITS, all 99", x.state(1), 792);
        Answers.due("by how much they differ, 99 each", x.state(2), 792);
        Answers.due("VICES, all 99", x.state(5), 792);
        for (int i = 0; i < 8; i++) {
            x.change(i, 1, 0);
            x.change(i, 3, i < 4 ? 99 : 0);
            x.vice(i, 0);
        }
        Answers.due("TRAITS, all 0", x.state(1), 0);
        Answers.due("by how much they differ, half of them", x.state(2), 396);
        Answers.due("VICES, all 0", x.state(5), 0);
    }

    // ---- draws

    /** z as 32 bits of a long: 0 to 4294967295. */
    private static long next(long z) {
        return z * 1103515245L + 12345L & 0xffffffffL;
    }

    private static void drawsWrap() {
        Answers.sentence("section 2", "z (an int) becomes z * 1103515245 + 12345; z >>> 16 is drawn");
        for (int seed : new int[] {0, 1, -1, Answers.LEAST, Answers.MOST, 1 << 30, -12345, 65536, -65536}) {
            BoundGodmothers x = Answers.told("child to 0;child to 1;child to 2;child to 3;child to 4;child to 5;child to 6;slip 60;");
            Answers.due("seed(" + seed + ")", x.seed(seed), 1);
            long z = seed & 0xffffffffL;
            int[] sworn = {0, 1, 2, 3, 4, 5, 6};
            for (int year = 0; year < 20; year++) {
                long one = next(z);
                z = next(one);
                if ((z >> 16) % 100 < 60) {
                    z = next(z);
                    sworn[(int) ((one >> 16) % 7)] = (int) ((z >> 16) % 8);
                }
                x.year();
                for (int i = 0; i < 7; i++) Answers.due("SWORN behind seed " + seed, x.of(i, 5), sworn[i]);
            }
            Answers.due("z behind seed " + seed, x.seed(7), (int) z);
        }
    }

    private static void drawsOfNone() {
        Answers.sentence("section 2", "A YEAR BY DRAWS: if there are CHILDREN, a draw");
        BoundGodmothers x = new BoundGodmothers();
        x.set(3, 99);
        Answers.due("year() without any", x.year(), 0);
        Answers.due("z", x.seed(5), 1);
        Answers.due("YEAR", x.state(0), 1);
        x.child(0, 50, 5, 0);
        x.seed(1);
        x.year();
        Answers.must(x.seed(5) != 1, "z stays though there is one");
    }

    /** A seed whose second draw leaves a rest by 100, and whose third leaves to by 8. */
    private static int seedFor(int rest, int to) {
        for (int seed = 0; seed < 1000000; seed++) {
            long second = next(next(seed));
            if ((second >> 16) % 100 == rest && (next(second) >> 16) % 8 == to) return seed;
        }
        throw new IllegalStateException("no seed for " + rest + ", " + to);
    }

    private static void slips(int slip, int rest, boolean isSlip) {
        for (int to = 0; to < 8; to++) {
            BoundGodmothers x = Answers.told("child to 3;slip " + slip + ";");
            int seed = seedFor(rest, to);
            x.seed(seed);
            x.year();
            String told = "SLIP " + slip + ", drawn " + rest;
            Answers.due("SWORN, " + told, x.of(0, 5), isSlip ? to : 3);
            long two = next(next(seed));
            Answers.due("z, " + told, x.seed(0), (int) (isSlip ? next(two) : two));
        }
    }

    private static void belowSlip() {
        Answers.sentence("section 2", "if what that leaves by 100 is below SLIP");
        slips(0, 0, false);
        slips(1, 0, true);
        slips(1, 1, false);
        slips(20, 19, true);
        slips(20, 20, false);
        slips(99, 98, true);
        slips(99, 99, false);
    }

    private static void luckIsLess() {
        Answers.sentence("section 2", "LUCK: all are less FAR then, together, than behind a YEAR");
        // SWORN to 7 its TRAIT becomes 55; to 0 it becomes 45; to 1 it is as to 7; to 2 it stays
        String text = "child to 7 wish 00;slip 99;vice 0 is 60;vice 2 is 50;easy 2;";
        int[][] table = {{50, 0, 0}, {50, 1, 0}, {50, 2, 1}, {50, 7, 0}, {49, 0, 1}, {51, 0, 0}, {51, 2, 1}, {53, 2, 0}, {52, 2, 1},
            {54, 2, 0}, {60, 2, 0}, {40, 0, 1}, {40, 7, 0}};
        for (int[] t : table) {
            BoundGodmothers x = Answers.told(text.replace("00", "" + t[0]));
            x.seed(seedFor(50, t[1]));
            Answers.due("WISH " + t[0] + ", SWORN to " + t[1], x.luck(1), t[2]);
        }
    }

    private static void luckOfNone() {
        Answers.sentence("promise 18", "LUCK (n 1 to 30)");
        BoundGodmothers x = new BoundGodmothers();
        Answers.due("luck(1) without any", x.luck(1), 0);
        Answers.due("luck(30) without any", x.luck(30), 0);
        Answers.due("z", x.seed(1), 1);
        x = Answers.told("child to 0 age 99;slip 99;easy 3;");
        Answers.due("luck(30) of one that moves no more", x.luck(30), 0);
        x = Answers.told("child to 0 fire 0;slip 99;easy 3;");
        Answers.due("luck(30) of one without FIRE", x.luck(30), 0);
        x = Answers.told("child to 0;slip 0;easy 3;");
        Answers.due("luck(30) without slips", x.luck(30), 0);
    }

    private static void luckGoesOn() {
        Answers.sentence("section 2", "each tried from how all is now (z alone goes on) (nothing changes, z neither)");
        BoundGodmothers x = Answers.told("twin to 0;slip 99;easy 3;easy 5;easy 7;");
        x.seed(77);
        int lucky = 0;
        long z = 77;
        for (int n = 1; n <= 30; n++) {
            z = next(next(z));
            if ((z >> 16) % 100 < 99) {
                z = next(z);
                long to = (z >> 16) % 8;
                if (to == 3 || to == 5 || to == 7) lucky++;
            }
            Answers.due("luck(" + n + ")", x.luck(n), lucky);
        }
        Answers.must(lucky > 5, "few are lucky");
        Answers.due("z", x.seed(0), 77);
        Answers.due("SWORN", x.of(0, 5), 0);
        Answers.due("AGE", x.of(0, 4), 0);
    }
}
