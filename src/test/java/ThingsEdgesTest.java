/** The sentences on rows, acts, sheets, shelves and what is kept that name a boundary case. */
public final class ThingsEdgesTest {
    private static final String[] KINDS = {"child", "heir", "urchin", "curate", "reformer", "twin"};

    public static void main(String[] args) {
        rowsOfOneAndTen();
        rowsHeld();
        alteredToAnything();
        judgedWithoutRows();
        judgedByTheFirst();
        judgedFromNow();
        actsOfEachKind();
        actsWrap();
        partedWraps();
        partedByNothing();
        answersLikeRefusals();
        noTraceThen();
        traceOfTheLatest();
        longestTrace();
        sheetsAtTheEnds();
        narrowed();
        allZero();
        missing();
        itemsAsLow();
        mindsHeld();
        mindsOfNone();
        mindsOfEight();
        shelvedThatIsGone();
        shelvedRowStays();
        shelvedRowOfNone();
        shelvedNothing();
        takenUnder();
        manyAtTheEnds();
        keptOfNone();
        keptLatest();
        notKept();
        Answers.end();
    }

    // ---- ROWS

    private static void rowsOfOneAndTen() {
        Answers.sentence("promise 32", "ROWS of one by n YEARS (1 to 10): how many");
        BoundGodmothers x = Answers.told("child to 0 fire 1;");
        Answers.due("prove by 10", x.prove(0, 10), 10);
        for (int i = 0; i < 10; i++) {
            Answers.due("TRAIT of ROW " + i, x.row(i, 0), 51 + i);
            Answers.due("AGE of ROW " + i, x.row(i, 1), 1 + i);
            Answers.due("ROW " + i + " and its WISH", x.row(i, 2), 1 + i);
        }
        Answers.due("ROW 10", x.row(10, 0), -9);
        Answers.due("ROWS", x.many(4), 10);
        Answers.due("prove by 1", x.prove(0, 1), 1);
        Answers.due("ROWS", x.many(4), 1);
        Answers.due("ROW 0", x.row(0, 0), 51);
        Answers.due("ROW 1 is gone", x.row(1, 0), -9);
        Answers.due("ROW 1 can't be altered", x.alterRow(1, 0, 5), -9);
        Answers.due("TRAIT stays", x.of(0, 1), 50);
    }

    private static void rowsHeld() {
        Answers.sentence("section 3", "ROWS behind 1, 2, .. n YEARS: AGE 99 at most, TRAIT held, from its ENDS on the same");
        BoundGodmothers x = Answers.told("child to 0 trait 97 fire 9 age 19;child to 0 age 98;child to 0 trait 2 fire 1;vice 0 is 50;");
        x.prove(0, 4);
        int[][] rows = {{99, 20, 49}, {99, 21, 49}, {99, 22, 49}, {99, 23, 49}};
        for (int i = 0; i < 4; i++) for (int w = 0; w < 3; w++) Answers.due("row(" + i + ", " + w + ")", x.row(i, w), rows[i][w]);
        x.prove(1, 3);
        for (int i = 0; i < 3; i++) {
            Answers.due("AGE of ROW " + i, x.row(i, 1), 99);
            Answers.due("TRAIT of ROW " + i, x.row(i, 0), 50);
        }
        x.prove(2, 4);
        int[] down = {1, 0, 0, 0};
        for (int i = 0; i < 4; i++) {
            Answers.due("TRAIT of ROW " + i, x.row(i, 0), down[i]);
            Answers.due("ROW " + i + " and its WISH", x.row(i, 2), 50 - down[i]);
        }
    }

    private static void alteredToAnything() {
        Answers.sentence("promise 34", "It becomes v: what it was");
        BoundGodmothers x = Answers.told("child to 0 fire 1;");
        x.prove(0, 10);
        int was = 60;
        for (int v : new int[] {0, -1, -9, 100, Answers.LEAST, Answers.MOST, 60}) {
            Answers.due("alterRow(9, 0, " + v + ")", x.alterRow(9, 0, v), was);
            Answers.due("row(9, 0)", x.row(9, 0), v);
            Answers.due("judge(0)", x.judge(0), v == 60 ? 0 : 10);
            was = v;
        }
        Answers.due("another stays", x.row(9, 1), 10);
        Answers.due("another stays", x.row(8, 0), 59);
    }

    private static void judgedWithoutRows() {
        Answers.sentence("promise 35", "0 all is right (also if there are none)");
        BoundGodmothers x = Answers.told("child to 0;");
        Answers.due("judge(0) without ROWS", x.judge(0), 0);
        x.prove(0, 10);
        Answers.due("judge(0) of its own", x.judge(0), 0);
        Answers.due("judge(1) without ROWS", Answers.told("child to 0;").judge(1), Answers.BAD);
    }

    private static void judgedByTheFirst() {
        Answers.sentence("promise 35", "else the first ROW that isn't, and 1 more");
        for (int i = 9; i >= 0; i--) {
            for (int what = 0; what < 3; what++) {
                BoundGodmothers x = Answers.told("child to 0 fire 1;");
                x.prove(0, 10);
                x.alterRow(i, what, x.row(i, what) + 1);
                Answers.due("judge with ROW " + i + " altered", x.judge(0), i + 1);
                if (i < 9) x.alterRow(9, 0, 0);
                Answers.due("judge with ROW 9 altered too", x.judge(0), i + 1);
            }
        }
    }

    private static void judgedFromNow() {
        Answers.sentence("section 3", "THE READER takes ROWS as those of one, from how it is now");
        BoundGodmothers x = Answers.told("child to 0 fire 1;child to 0 fire 1;child to 0 fire 1 wish 51;child to 0 fire 1 age 1;");
        x.prove(0, 2);
        Answers.due("one that is the same", x.judge(1), 0);
        Answers.due("another WISH", x.judge(2), 1);
        Answers.due("another AGE", x.judge(3), 1);
        x.change(0, 4, 20);
        Answers.due("it has become older", x.judge(0), 1);
        x.change(0, 4, 0);
        Answers.due("as it was", x.judge(0), 0);
        x.years(1);
        Answers.due("a YEAR later", x.judge(0), 1);
        x = Answers.told("twin to 0;");
        x.prove(0, 1);
        x.years(1);
        x.change(0, 1, 50);
        x.change(0, 4, 0);
        Answers.due("a twin in another YEAR", x.judge(0), 1);
    }

    // ---- ACTS

    /** One of a KIND with a number, SWORN to a GODMOTHER, on SHELF 0. */
    private static BoundGodmothers shelved(int kind, int number, int sworn) {
        BoundGodmothers x = new BoundGodmothers();
        for (int i = 0; i <= number; i++) x.child(kind, 50, 5, sworn);
        x.shelf(0, 0, number);
        return x;
    }

    private static void actsOfEachKind() {
        Answers.sentence("section 3", "BODIES: of number 4, SWORN to 3, who parts by less than 0");
        int[][] table = {{10, 86, 80, -10, 0}, {10, 86, 83, -10, 3}, {10, -86, -92, -10, -16}, {10, 89, 86, -24, 6},
            {10, -84, -73, -10, -29}, {11, 95, 89, 21, 27}};
        for (int kind = 0; kind < 6; kind++) {
            BoundGodmothers x = shelved(kind, 4, 3);
            for (int act = 0; act < 4; act++) {
                Answers.due(KINDS[kind] + " act " + act, x.act(0, act, table[kind][0]), table[kind][1 + act]);
            }
        }
    }

    private static void actsWrap() {
        Answers.sentence("section 3", "ACTS of things, with a number x (ints that wrap)");
        int least = Answers.LEAST;
        int most = Answers.MOST;
        Answers.due("child kicks the most", shelved(0, 0, 0).act(0, 0, most), most - 8);
        Answers.due("child 7 kicks the most", shelved(0, 7, 0).act(0, 0, most), most - 15);
        Answers.due("child kicks the least", shelved(0, 0, 0).act(0, 0, least), least);
        Answers.due("child 1 kicks the least", shelved(0, 1, 0).act(0, 0, least), most);
        Answers.due("child 7 kicks the least", shelved(0, 7, 0).act(0, 0, least), most - 6);
        Answers.due("urchin kicks the least", shelved(2, 0, 0).act(0, 0, least), least);
        Answers.due("urchin 1 kicks the least", shelved(2, 1, 0).act(0, 0, least), least + 1);
        Answers.due("child prays the least", shelved(0, 0, 1).act(0, 1, least), most - 1);
        Answers.due("heir prays the least", shelved(1, 0, 1).act(0, 1, least), least + 1);
        Answers.due("child grows the least", shelved(0, 0, 0).act(0, 3, least), least + 80);
        Answers.due("twin grows the least", shelved(5, 0, 0).act(0, 3, least), least + 240);
        Answers.due("twin grows 2^30", shelved(5, 0, 0).act(0, 3, 1 << 30), (int) (3L * ((1 << 30) + 80)));
        Answers.due("curate kicks 2^31 / 9", shelved(3, 0, 7).act(0, 0, 238609294), (int) (238609294L * 9 + 7));
    }

    private static void partedWraps() {
        Answers.sentence("section 3", "parts: x by (a - n), cut");
        int least = Answers.LEAST;
        Answers.due("the least by -1", shelved(0, 1, 0).act(0, 2, least), least);
        Answers.due("the most by -1", shelved(0, 1, 0).act(0, 2, Answers.MOST), least + 1);
        Answers.due("the least by 7", shelved(0, 0, 7).act(0, 2, least), -306783378);
        Answers.due("the least by -7", shelved(0, 7, 0).act(0, 2, least), 306783378);
        Answers.due("-13 by -7", shelved(0, 7, 0).act(0, 2, -13), 1);
        Answers.due("-6 by 7", shelved(0, 0, 7).act(0, 2, -6), 0);
        Answers.due("0 by 1", shelved(0, 0, 1).act(0, 2, 0), 0);
        Answers.due("curate parts 2^30 by 1", shelved(3, 0, 1).act(0, 2, 1 << 30), Answers.MOST - 3);
        Answers.due("curate parts 2^30 by -1", shelved(3, 1, 0).act(0, 2, 1 << 30), Answers.MOST - 3);
        Answers.due("curate parts the most by 1", shelved(3, 0, 1).act(0, 2, Answers.MOST), -6);
        Answers.due("curate parts the least by 1", shelved(3, 0, 1).act(0, 2, least), -4);
        Answers.due("twin 1 parts the least by -1", shelved(5, 1, 0).act(0, 2, least), least + 8);
    }

    private static void traced(String what, BoundGodmothers x, int... bodies) {
        Answers.due("bodies, " + what, x.many(6), bodies.length);
        for (int i = 0; i < bodies.length; i++) Answers.due("body " + i + ", " + what, x.trace(i), bodies[i]);
        Answers.due("no more bodies, " + what, x.trace(bodies.length), Answers.NONE);
    }

    private static void partedByNothing() {
        Answers.sentence("section 3", "(-15 if these are the same; that is all that act() answers then)");
        int[][] parts = {{12}, {12}, {12}, {50, 12}, {12}, {61, 12}};
        for (int kind = 0; kind < 6; kind++) {
            for (int number = 0; number < 8; number++) {
                BoundGodmothers x = shelved(kind, number, number);
                for (int v : new int[] {0, 1, -1, Answers.LEAST, Answers.MOST}) {
                    Answers.due(KINDS[kind] + " " + number + " parts " + v, x.act(0, 2, v), -15);
                    traced(KINDS[kind] + " parts", x, parts[kind]);
                }
            }
        }
        BoundGodmothers x = shelved(2, 3, 3);
        Answers.due("urchin grows", x.act(0, 3, 5), -15);
        traced("urchin grows", x, 31, 13, 11, 30, 10, 12);
        x = shelved(4, 3, 3);
        Answers.due("reformer grows", x.act(0, 3, 5), -15);
        traced("reformer grows", x, 31, 13, 41, 11, 40, 30, 10, 40, 30, 10, 12);
        x = shelved(5, 3, 3);
        Answers.due("twin grows without parting", x.act(0, 3, 5), ((5 * 9 - 3 - 6) ^ 80) * 3);
        Answers.due("an act behind it", x.act(0, 0, 5), 42);
        traced("an act behind it", x, 10);
        x.swear(3, 2);
        Answers.due("SWORN to another it parts", x.act(0, 2, 8), -8 + 24);
    }

    private static void answersLikeRefusals() {
        Answers.sentence("promise 42", "An ACT of the thing: its answer may be as low as a refusal");
        for (int low : new int[] {-1, -2, -3, -9, -11, -12, -13, -14, -15}) {
            BoundGodmothers x = shelved(0, 0, 1);
            Answers.due("child parts " + low + " by 1", x.act(0, 2, low), low);
            traced("it ran", x, 12);
        }
        BoundGodmothers x = shelved(0, 6, 0);
        Answers.due("child 6 kicks -1", x.act(0, 0, -1), -15);
        traced("it ran", x, 10);
        x = shelved(0, 0, 1);
        Answers.due("child kicks 0", x.act(0, 0, 0), 0);
        traced("it ran", x, 10);
    }

    private static void noTraceThen() {
        Answers.sentence("promise 42", "0, and no TRACE then: no such SHELF, act, nothing, a row");
        int[][] none = {{4, 0}, {-1, 0}, {Answers.LEAST, 0}, {Answers.MOST, 0}, {0, 4}, {0, -1}, {0, Answers.LEAST}, {0, Answers.MOST},
            {1, 0}, {2, 0}, {2, 4}, {3, 0}};
        for (int[] b : none) {
            BoundGodmothers x = shelved(4, 1, 2);
            x.sheet(0, 0, 5);
            x.shelf(2, 1, 0);
            x.sheet(1, 2, 0);
            x.shelf(3, 1, 1);
            Answers.must(x.act(0, 3, 5) != 0, "no act before");
            Answers.must(x.many(6) == 11, "no TRACE before");
            Answers.due("act(" + b[0] + ", " + b[1] + ", 5)", x.act(b[0], b[1], 5), 0);
            traced("none", x);
        }
        BoundGodmothers x = shelved(0, 0, 1);
        x.act(0, 0, 1);
        x.church();
        Answers.due("THE TRACE stays behind church()", x.many(6), 1);
        Answers.due("act of one that is gone", x.act(0, 0, 5), 0);
        traced("none", x);
    }

    private static void traceOfTheLatest() {
        Answers.sentence("section 3", "THE TRACE: of the bodies that ran in the latest act(), as they began (left first)");
        int[][][] bodies = {
            {{10}, {11, 10}, {12}, {13, 11, 10}},
            {{10}, {20, 11, 10}, {12}, {13, 20, 11, 10}},
            {{30, 10}, {11, 30, 10}, {12}, {31, 13, 11, 30, 10, 12}},
            {{51, 10}, {20, 11, 51, 10}, {50, 12}, {13, 20, 11, 51, 10}},
            {{40, 30, 10}, {41, 11, 40, 30, 10, 40, 30, 10}, {12}, {31, 13, 41, 11, 40, 30, 10, 40, 30, 10, 12}},
            {{10}, {11, 10}, {61, 12, 10}, {60, 13, 11, 10}}};
        for (int kind = 0; kind < 6; kind++) {
            BoundGodmothers x = shelved(kind, 1, 3);
            traced("none before the first", x);
            for (int act = 3; act >= 0; act--) {
                x.act(0, act, 5);
                traced(KINDS[kind] + " act " + act, x, bodies[kind][act]);
            }
        }
    }

    private static void longestTrace() {
        Answers.sentence("section 3", "the first 30 are kept");
        BoundGodmothers x = shelved(4, 1, 3);
        x.act(0, 3, 5);
        Answers.due("the longest", x.many(6), 11);
        for (int i : new int[] {11, 12, 29, 30, 31, 255, Answers.MOST, -1, Answers.LEAST}) {
            Answers.due("trace(" + i + ")", x.trace(i), Answers.NONE);
        }
    }

    // ---- SHEETS

    private static void sheetsAtTheEnds() {
        Answers.sentence("section 3", "SHEETS 0 to 3 are rows .. 40 at most");
        for (int sort = 0; sort < 4; sort++) {
            BoundGodmothers x = new BoundGodmothers();
            for (int size : new int[] {0, 1, 39, 40}) {
                Answers.due("sheet of " + size, x.sheet(3, sort, size), 1);
                Answers.due("put in the last", x.put(3, size - 1, 7), size == 0 ? -12 : 1);
                Answers.due("put behind the last", x.put(3, size, 7), -12);
                Answers.due("the last", x.item(3, sort, size - 1), size == 0 ? -12 : 7);
                Answers.due("behind the last", x.item(3, sort, size), -12);
                Answers.due("before the first", x.item(3, sort, -1), -12);
                x.shelf(0, 1, 3);
                Answers.due("how many", x.taken(0, 10 + sort), size);
            }
            Answers.due("sheet of 41", x.sheet(3, sort, 41), Answers.BAD);
            Answers.due("sheet of -1", x.sheet(3, sort, -1), -14);
            Answers.due("the last stays", x.item(3, sort, 39), 7);
        }
    }

    private static void narrowed() {
        Answers.sentence("promise 38", "Item i becomes v, narrowed to its sort");
        int[][] table = {{127, 127, 127}, {128, -128, 128}, {-128, -128, -128}, {-129, 127, -129}, {255, -1, 255}, {256, 0, 256},
            {32767, -1, 32767}, {32768, 0, -32768}, {-32768, 0, -32768}, {-32769, -1, 32767}, {65535, -1, -1}, {65536, 0, 0},
            {Answers.MOST, -1, -1}, {Answers.LEAST, 0, 0}, {0x12345678, 0x78, 0x5678}};
        BoundGodmothers x = new BoundGodmothers();
        for (int sort = 0; sort < 4; sort++) x.sheet(sort, sort, 2);
        for (int[] t : table) {
            for (int sort = 0; sort < 4; sort++) {
                Answers.due("put(" + sort + ", 1, " + t[0] + ")", x.put(sort, 1, t[0]), 1);
                Answers.due("item", x.item(sort, sort, 1), sort < 2 ? t[1 + sort] : t[0]);
            }
        }
        for (int sort = 0; sort < 4; sort++) Answers.due("another item stays", x.item(sort, sort, 0), 0);
    }

    private static void allZero() {
        Answers.sentence("promise 37", "A SHEET becomes a row of n of a sort, all 0");
        BoundGodmothers x = new BoundGodmothers();
        x.sheet(1, 2, 40);
        x.sheet(2, 2, 40);
        for (int i = 0; i < 40; i++) {
            x.put(1, i, i + 1);
            x.put(2, i, i + 100);
        }
        Answers.due("fewer", x.sheet(1, 2, 3), 1);
        for (int i = 0; i < 3; i++) Answers.due("item " + i, x.item(1, 2, i), 0);
        Answers.due("more", x.sheet(1, 3, 40), 1);
        for (int i = 0; i < 40; i++) Answers.due("item " + i, x.item(1, 3, i), 0);
        for (int i = 0; i < 40; i++) Answers.due("another SHEET stays", x.item(2, 2, i), i + 100);
    }

    private static void missing() {
        Answers.sentence("promise 37", "or missing (sort -1; n counts nothing then): 1");
        for (int n : new int[] {0, -1, 41, 40, Answers.LEAST, Answers.MOST}) {
            BoundGodmothers x = new BoundGodmothers();
            x.sheet(0, 0, 5);
            Answers.due("sheet(0, -1, " + n + ")", x.sheet(0, -1, n), 1);
            Answers.due("put", x.put(0, 0, 1), -11);
            for (int sort = 0; sort < 4; sort++) Answers.due("item", x.item(0, sort, 0), -11);
            Answers.due("missing once more", x.sheet(0, -1, n), 1);
        }
        Answers.sentence("section 3", "or missing (at first)");
        BoundGodmothers x = Answers.told("child to 0;");
        for (int i = 0; i < 4; i++) {
            Answers.due("put", x.put(i, 0, 1), -11);
            Answers.due("item", x.item(i, 0, 0), -11);
            Answers.due("fits", x.fits(i, 0, 0), -11);
            Answers.due("minds", x.minds(i, 0, 0, 0), -11);
        }
    }

    private static void itemsAsLow() {
        Answers.sentence("promise 39", "(An item may be as low as these, too.)");
        BoundGodmothers x = new BoundGodmothers();
        for (int sort = 0; sort < 4; sort++) {
            x.sheet(0, sort, 1);
            for (int low : new int[] {-1, -11, -12, -13, -128}) {
                Answers.due("put", x.put(0, 0, low), 1);
                Answers.due("item, sort " + sort, x.item(0, sort, 0), low);
            }
        }
        Answers.sentence("promise 39", "of longs the lowest 32 bits");
        for (int v : new int[] {Answers.LEAST, Answers.MOST, -1}) {
            x.put(0, 0, v);
            Answers.due("item", x.item(0, 3, 0), v);
        }
    }

    // ---- minds

    private static void mindsHeld() {
        Answers.sentence("promise 36", "become TRAIT of CHILDREN from one on (held to 0 to 99)");
        BoundGodmothers x = Answers.told("child to 0;child to 0;");
        x.sheet(0, 0, 2);
        int[][] table = {{0, 0}, {99, 99}, {100, 99}, {127, 99}, {128, 0}, {255, 0}, {-1, 0}, {-128, 0}, {1, 1}, {98, 98}};
        for (int[] t : table) {
            x.put(0, 1, t[0]);
            Answers.due("minds", x.minds(0, 1, 1, 1), 1);
            Answers.due("TRAIT by " + t[0], x.of(1, 1), t[1]);
        }
        Answers.due("another's stays", x.of(0, 1), 50);
    }

    private static void mindsOfNone() {
        Answers.sentence("promise 36", "-12: i is not 0 to how many items there are (also for n 0)");
        BoundGodmothers x = Answers.told("child to 0;");
        x.sheet(0, 0, 2);
        x.sheet(1, 0, 0);
        int[][] table = {{0, 0, 0}, {0, 2, 0}, {0, 3, -12}, {0, -1, -12}, {1, 0, 0}, {1, 1, -12}, {1, -1, -12}};
        for (int[] t : table) Answers.due("minds(" + t[0] + ", " + t[1] + ", 0, 0)", x.minds(t[0], t[1], 0, 0), t[2]);
        Answers.due("TRAIT stays", x.of(0, 1), 50);
        Answers.sentence("promise 36", "-12: or there are not so many");
        Answers.due("one of none", x.minds(1, 0, 0, 1), -12);
        Answers.due("the last", x.minds(0, 1, 0, 1), 1);
        Answers.due("behind the last", x.minds(0, 2, 0, 1), -12);
        Answers.due("TRAIT by the last", x.of(0, 1), 0);
    }

    private static void mindsOfEight() {
        Answers.sentence("promise 36", "n numbers (0 to 8) of a SHEET .. from i on");
        BoundGodmothers x = new BoundGodmothers();
        for (int i = 0; i < 8; i++) x.child(0, 50, 5, 0);
        x.sheet(0, 0, 40);
        for (int i = 0; i < 40; i++) x.put(0, i, i + 1);
        Answers.due("eight", x.minds(0, 32, 0, 8), 8);
        for (int i = 0; i < 8; i++) Answers.due("TRAIT of " + i, x.of(i, 1), 33 + i);
        Answers.due("eight, one too many", x.minds(0, 33, 0, 8), -12);
        Answers.due("nine", x.minds(0, 0, 0, 9), Answers.BAD);
        Answers.due("eight from the second one on", x.minds(0, 0, 1, 8), Answers.BAD);
        Answers.due("seven from the second one on", x.minds(0, 0, 1, 7), 7);
        for (int i = 0; i < 8; i++) Answers.due("TRAIT of " + i, x.of(i, 1), i == 0 ? 33 : i);
    }

    // ---- SHELVES

    private static void shelvedThatIsGone() {
        Answers.sentence("section 3", "one of the CHILDREN (by its number; nothing, if there is no such one at the time)");
        BoundGodmothers x = Answers.told("child to 0;heir to 0;");
        x.keep();
        x.shelf(0, 0, 1);
        Answers.due("taken", x.taken(0, 1), 1);
        x.church();
        Answers.due("gone", x.taken(0, 0), -11);
        Answers.due("gone, as a row", x.taken(0, 10), -11);
        x.child(0, 50, 5, 0);
        Answers.due("still gone", x.taken(0, 0), -11);
        x.child(2, 50, 5, 0);
        Answers.due("another with its number", x.taken(0, 2), 1);
        Answers.due("another with its number, as an heir", x.taken(0, 1), -13);
        x.again();
        Answers.due("the heir again", x.taken(0, 1), 1);
        x.mind(1, 5, 5);
        Answers.due("as a twin", x.taken(0, 5), 1);
        Answers.due("no heir now", x.taken(0, 1), -13);
    }

    private static void shelvedRowStays() {
        Answers.sentence("section 3", "SHELVES hold a SHEET's row");
        BoundGodmothers x = new BoundGodmothers();
        for (int i = 0; i < 4; i++) {
            x.sheet(i, i, 10 * i + 10);
            x.shelf(3 - i, 1, i);
        }
        for (int i = 0; i < 4; i++) Answers.due("how many", x.taken(3 - i, 10 + i), 10 * i + 10);
        for (int i = 0; i < 4; i++) x.sheet(i, i % 2 == 0 ? -1 : 0, 1);
        for (int i = 0; i < 4; i++) Answers.due("how many still", x.taken(3 - i, 10 + i), 10 * i + 10);
        for (int as = 0; as < 6; as++) Answers.due("a row as a KIND", x.taken(0, as), -13);
    }

    private static void shelvedRowOfNone() {
        Answers.sentence("promise 40", "the row of SHEET n (1; nothing, if missing)");
        BoundGodmothers x = new BoundGodmothers();
        Answers.due("missing", x.shelf(0, 1, 0), 1);
        for (int as = 10; as <= 13; as++) Answers.due("nothing", x.taken(0, as), -11);
        x.sheet(0, 1, 0);
        Answers.due("still nothing", x.taken(0, 11), -11);
        Answers.due("a row of none", x.shelf(0, 1, 0), 1);
        Answers.due("how many", x.taken(0, 11), 0);
        Answers.due("as bytes", x.taken(0, 10), -13);
        x.sheet(0, -1, 0);
        Answers.due("missing anew", x.shelf(0, 1, 0), 1);
        Answers.due("nothing anew", x.taken(0, 11), -11);
    }

    private static void shelvedNothing() {
        Answers.sentence("promise 40", "nothing (2)");
        for (int n : new int[] {0, -1, 8, Answers.LEAST, Answers.MOST}) {
            BoundGodmothers x = shelved(0, 0, 1);
            Answers.due("shelf(0, 2, " + n + ")", x.shelf(0, 2, n), 1);
            Answers.due("nothing", x.taken(0, 0), -11);
            Answers.due("nothing acts", x.act(0, 0, 5), 0);
        }
        Answers.sentence("section 3", "SHELVES hold nothing (at first)");
        BoundGodmothers x = Answers.told("child to 0;");
        for (int i = 0; i < 4; i++) {
            for (int as = 0; as <= 13; as++) Answers.due("taken", x.taken(i, as), as > 5 && as < 10 ? Answers.BAD : -11);
        }
    }

    private static void takenUnder() {
        Answers.sentence("promise 41", "taken for a thing of KIND as (0 to 5, or one under it): its number");
        String[] under = {"0", "01", "02", "013", "024", "05"};
        for (int kind = 0; kind < 6; kind++) {
            for (int number = 0; number < 8; number += 7) {
                BoundGodmothers x = shelved(kind, number, 1);
                for (int as = 0; as < 6; as++) {
                    boolean isUnder = under[kind].contains("" + as);
                    Answers.due(KINDS[kind] + " as " + KINDS[as], x.taken(0, as), isUnder ? number : -13);
                }
                for (int as = 10; as < 14; as++) Answers.due(KINDS[kind] + " as a row", x.taken(0, as), -13);
            }
        }
    }

    // ---- the whole

    private static void manyAtTheEnds() {
        Answers.sentence("promise 44", "How many");
        BoundGodmothers x = new BoundGodmothers();
        for (int i = 0; i < 8; i++) {
            x.child(0, 50, 5, 0);
            x.easy(i, 1);
            Answers.due("CHILDREN", x.many(0), i + 1);
            Answers.due("those not of age", x.many(1), i + 1);
            Answers.due("EASY GODMOTHERS", x.many(2), i + 1);
            Answers.due("GODMOTHERS to whom anybody is SWORN", x.many(3), 1);
        }
        for (int i = 0; i < 8; i++) {
            x.swear(i, 7 - i);
            x.change(i, 4, 21);
            Answers.due("those not of age", x.many(1), 7 - i);
        }
        Answers.due("GODMOTHERS to whom anybody is SWORN", x.many(3), 8);
        x.prove(0, 10);
        Answers.due("ROWS", x.many(4), 10);
        Answers.feed(x, " ".repeat(200));
        Answers.due("bytes", x.many(5), 200);
    }

    private static void keptOfNone() {
        Answers.sentence("promise 46", "how many CHILDREN");
        BoundGodmothers x = new BoundGodmothers();
        Answers.due("keep() of none", x.keep(), 1);
        for (int i = 0; i < 8; i++) x.child(0, 50, 5, 0);
        Answers.due("again()", x.again(), 0);
        Answers.due("CHILDREN", x.many(0), 0);
        for (int i = 0; i < 8; i++) Answers.due("one more", x.child(0, 50, 5, 0), i);
        Answers.due("keep() of eight", x.keep(), 1);
        x.church();
        Answers.due("again()", x.again(), 8);
        Answers.due("a ninth", x.child(0, 50, 5, 0), Answers.FULL);
    }

    private static void keptLatest() {
        Answers.sentence("promise 46", "It becomes what was kept latest (which stays)");
        BoundGodmothers x = new BoundGodmothers();
        for (int i = 0; i < 3; i++) {
            x.child(0, 10 * i, 5, 0);
            x.seed(100 + i);
            x.keep();
        }
        for (int i = 0; i < 3; i++) {
            x.years(7);
            x.set(0, 9);
            x.seed(5);
            Answers.due("again()", x.again(), 3);
            Answers.due("TRAITS", x.state(1), 30);
            Answers.due("YEAR", x.state(0), 0);
            Answers.due("PIETY", x.lawOf(0), 2);
            Answers.due("z", x.seed(6), 102);
        }
    }

    private static void notKept() {
        Answers.sentence("promise 45", "All but THE TAPE, ROWS, SHEETS, SHELVES, THE TRACE is kept");
        BoundGodmothers x = Answers.told("child to 1;heir to 1;");
        Answers.due("keep()", x.keep(), 1);
        x.sheet(0, 1, 3);
        x.put(0, 2, 9);
        x.shelf(0, 0, 1);
        x.shelf(1, 1, 0);
        x.act(0, 1, 3);
        x.prove(1, 5);
        Answers.feed(x, "easy 3;");
        Answers.due("again()", x.again(), 2);
        Answers.due("item", x.item(0, 1, 2), 9);
        Answers.due("a child on a SHELF", x.taken(0, 1), 1);
        Answers.due("a row on a SHELF", x.taken(1, 11), 3);
        traced("again", x, 20, 11, 10);
        Answers.due("ROWS", x.many(4), 5);
        Answers.due("judge", x.judge(1), 0);
        Answers.due("bytes", x.many(5), 7);
        Answers.due("church()", x.church(), 0);
        Answers.due("EASY ones", x.state(4), 8);
    }
}
