/**
 * A church whose godmothers are bound to the opposite of what each child should become.
 * All rows are made in the constructors and used again, so that no call makes an object.
 */
public final class BoundGodmothers {
    public static final int BAD = -1, FULL = -2, NONE = -3;

    private static final int NO_ROW = -9, NOTHING = -11, OUTSIDE = -12, OTHER_SORT = -13, SIZE_BELOW_0 = -14,
        PARTED_BY_0 = -15, FAULT = -100;
    private static final int PIETY = 0, SLUM = 1, ROOM = 2, SLIP = 3;
    private static final int[] LAW_MOST = {9, 9, 99, 99};
    private static final int[] LAW_AT_FIRST = {2, 1, 9, 20};
    private static final int LAWS = 4, KINDS = 6, GODMOTHERS = 8, MOST_CHILDREN = 8;
    private static final int HIGHEST = 99, MOST_FIRE = 9, HALF = 50, FIRE_UNTOLD = 5, HUNDRED = 100;
    private static final int LONGEST = 60, LONGEST_PLAN = 30;
    private static final int MOST_ROWS = 10, ROW_WIDTH = 3;
    private static final int MOST_BIRTHS = 8;
    /** More than all can be FAR together. */
    private static final int TOO_FAR = 10000;

    private final Church now, kept, told;
    private final Life tried;
    private final Text text;
    private final Cupboard cupboard;
    private final Deed deed;
    private final int[] rows, fars, least;
    private int rowCount;
    private boolean isKept;

    public BoundGodmothers() {
        Child[] kinds = {new Child(), new Heir(), new Urchin(), new Curate(), new Reformer(), new Twin()};
        now = new Church(kinds);
        kept = new Church(kinds);
        told = new Church(kinds);
        tried = new Life();
        text = new Text();
        cupboard = new Cupboard();
        deed = new Deed();
        rows = new int[MOST_ROWS * ROW_WIDTH];
        fars = new int[MOST_CHILDREN * GODMOTHERS];
        least = new int[1 << GODMOTHERS];
    }

    // ---- the text

    public int feed(long eight, int n) {
        if (n < 1 || n > 8) return BAD;
        return text.takes(eight, n) ? text.count : FULL;
    }

    public int church() {
        told.beAsAtFirst();
        told.z = now.z;
        int fault = text.tells(told);
        text.count = 0;
        if (fault >= 0) return FAULT - fault;
        now.become(told);
        rowCount = 0;
        return now.count;
    }

    // ---- laws, children and godmothers

    public int set(int law, int v) {
        if (!within(law, LAWS - 1) || !within(v, LAW_MOST[law])) return BAD;
        int was = now.laws[law];
        now.laws[law] = v;
        return was;
    }

    public int lawOf(int law) {
        return within(law, LAWS - 1) ? now.laws[law] : BAD;
    }

    public int child(int kind, int trait, int fire, int sworn) {
        if (!isKindWithFire(kind, fire) || !within(trait, HIGHEST) || !isGodmother(sworn)) return BAD;
        Life one = now.added();
        if (one == null) return FULL;
        one.begin(kind, trait, fire, sworn);
        return now.count - 1;
    }

    public int of(int child, int what) {
        Life one = now.life(child);
        return one != null && within(what, Life.SWORN) ? one.mark(what) : BAD;
    }

    public int does(int child, int what) {
        Life one = now.life(child);
        if (one == null) return BAD;
        switch (what) {
            case 0: return now.movesOf(one);
            case 1: return now.endsOf(one);
            default: return BAD;
        }
    }

    public int mind(int child, int kind, int fire) {
        Life one = now.life(child);
        if (one == null || !isKindWithFire(kind, fire)) return BAD;
        int was = one.kind;
        one.kind = kind;
        one.fire = fire;
        return was;
    }

    public int change(int child, int what, int v) {
        Life one = now.life(child);
        boolean changes = what == Life.TRAIT || what == Life.WISH || what == Life.AGE;
        if (one == null || !changes || !within(v, HIGHEST)) return BAD;
        int was = one.mark(what);
        one.remark(what, v);
        return was;
    }

    public int swear(int child, int godmother) {
        Life one = now.life(child);
        if (one == null || !isGodmother(godmother)) return BAD;
        int was = one.sworn;
        one.sworn = godmother;
        return was;
    }

    public int vice(int godmother, int v) {
        if (!isGodmother(godmother) || !within(v, HIGHEST)) return BAD;
        int was = now.vices[godmother];
        now.vices[godmother] = v;
        return was;
    }

    public int easy(int godmother, int v) {
        if (!isGodmother(godmother) || !within(v, 1)) return BAD;
        int was = now.isEasy(godmother) ? 1 : 0;
        now.easySet = (now.easySet & ~(1 << godmother)) | (v << godmother);
        return was;
    }

    public int godmother(int godmother, int what) {
        if (!isGodmother(godmother)) return BAD;
        switch (what) {
            case 0: return now.vices[godmother];
            case 1: return now.isEasy(godmother) ? 1 : 0;
            case 2: return now.swornTo(godmother);
            default: return BAD;
        }
    }

    // ---- years

    public int years(int n) {
        if (n < 1 || n > LONGEST) return BAD;
        for (int i = 0; i < n; i++) now.passYear();
        return now.traitsTogether();
    }

    public int seed(int v) {
        int was = now.z;
        now.z = v;
        return was;
    }

    public int year() {
        int slip = now.drawSlip();
        if (slip >= 0) {
            Life one = now.life(slip / GODMOTHERS);
            if (one != null) one.sworn = slip % GODMOTHERS;
        }
        now.passYear();
        return now.traitsTogether();
    }

    public int luck(int n) {
        if (n < 1 || n > LONGEST_PLAN) return BAD;
        int z = now.z;
        int lucky = 0;
        for (int i = 0; i < n; i++) {
            if (isLucky(now.drawSlip())) lucky++;
        }
        now.z = z;
        return lucky;
    }

    /** All but the one that slips become what they become without it: so that one alone tells. */
    private boolean isLucky(int slip) {
        if (slip < 0) return false;
        Life one = now.life(slip / GODMOTHERS);
        return one != null && farSworn(one, slip % GODMOTHERS, 1) < farSworn(one, one.sworn, 1);
    }

    public int state(int what) {
        switch (what) {
            case 0: return now.year;
            case 1: return now.traitsTogether();
            case 2: return now.farTogether();
            case 3: return now.ofAge();
            case 4: return now.easySet;
            case 5: return now.vicesTogether();
            default: return BAD;
        }
    }

    // ---- what is tried

    public int becomes(int child, int n) {
        Life one = now.life(child);
        if (one == null || !within(n, LONGEST)) return BAD;
        farSworn(one, one.sworn, n);
        return tried.trait;
    }

    public int suited(int child) {
        Life one = now.life(child);
        if (one == null) return BAD;
        tried.become(one);
        for (int n = 0; n <= LONGEST; n++) {
            if (tried.distance() <= now.laws[ROOM]) return n;
            now.passYearOf(tried, now.year + n);
        }
        return NONE;
    }

    public int grown() {
        int most = 0;
        for (int i = 0; i < now.count; i++) most = Math.max(most, now.yearsLeft(i));
        return most <= LONGEST ? most : NONE;
    }

    public int far(int child, int n) {
        Life one = now.life(child);
        if (one == null || !within(n, LONGEST)) return BAD;
        return farSworn(one, one.sworn, n);
    }

    public int swearFor(int child, int n) {
        return nearest(child, n, Life.SWORN, GODMOTHERS - 1);
    }

    public int kindFor(int child, int n) {
        return nearest(child, n, Life.KIND, KINDS - 1);
    }

    public int fireFor(int child, int n) {
        return nearest(child, n, Life.FIRE, MOST_FIRE);
    }

    /** The least of 0 to most that, as one's mark what, brings it nearest to its WISH. */
    private int nearest(int child, int n, int what, int most) {
        Life one = now.life(child);
        if (one == null || !isPlan(n)) return BAD;
        int nearest = 0;
        int distance = TOO_FAR;
        for (int v = 0; v <= most; v++) {
            int found = farWith(one, what, v, n);
            if (found < distance) {
                nearest = v;
                distance = found;
            }
        }
        return nearest;
    }

    /** FAR of one by n, if its mark what were v; tried is what it becomes. */
    private int farWith(Life one, int what, int v, int n) {
        tried.become(one);
        tried.remark(what, v);
        for (int i = 0; i < n; i++) now.passYearOf(tried, now.year + i);
        return tried.distance();
    }

    private int farSworn(Life one, int godmother, int n) {
        return farWith(one, Life.SWORN, godmother, n);
    }

    /** Each set of godmothers is met behind all that are less, so its least is ready when it is met. */
    public int best(int n) {
        if (!isPlan(n)) return BAD;
        fillFars(n);
        for (int set = 0; set < least.length; set++) least[set] = TOO_FAR;
        least[0] = 0;
        int best = TOO_FAR;
        for (int set = 0; set < least.length; set++) {
            int next = Integer.bitCount(set);
            if (next == now.count) best = Math.min(best, least[set]);
            else if (next < now.count) swearNext(set, next);
        }
        return best;
    }

    private void swearNext(int set, int child) {
        for (int godmother = 0; godmother < GODMOTHERS; godmother++) {
            int more = set | 1 << godmother;
            if (more != set && within(set, least.length - 1) && within(more, least.length - 1)) {
                least[more] = Math.min(least[more], least[set] + farAt(child, godmother));
            }
        }
    }

    public int enough(int n) {
        if (!isPlan(n)) return BAD;
        fillFars(n);
        int best = NONE;
        int bestSize = GODMOTHERS + 1;
        for (int set = 0; set < 1 << GODMOTHERS; set++) {
            int size = Integer.bitCount(set);
            if (size < bestSize && isEnough(set)) {
                best = set;
                bestSize = size;
            }
        }
        return best;
    }

    private boolean isEnough(int set) {
        for (int child = 0; child < now.count; child++) {
            boolean served = false;
            for (int godmother = 0; godmother < GODMOTHERS && !served; godmother++) {
                served = (set >> godmother & 1) == 1 && farAt(child, godmother) <= now.laws[ROOM];
            }
            if (!served) return false;
        }
        return true;
    }

    private void fillFars(int n) {
        for (int i = 0; i < fars.length; i++) {
            Life one = now.life(i / GODMOTHERS);
            if (one != null) fars[i] = farSworn(one, i % GODMOTHERS, n);
        }
    }

    private int farAt(int child, int godmother) {
        int i = child * GODMOTHERS + godmother;
        return within(i, fars.length - 1) ? fars[i] : 0;
    }

    public int fits(int sheet, int child, int what) {
        Life one = now.life(child);
        if (!cupboard.isSheet(sheet) || one == null || !within(what, 1)) return BAD;
        if (cupboard.isMissing(sheet)) return NOTHING;
        int many = 0;
        int first = NONE;
        for (int godmother = GODMOTHERS - 1; godmother >= 0; godmother--) {
            if (isFit(sheet, one, godmother)) {
                many++;
                first = godmother;
            }
        }
        return what == 0 ? many : first;
    }

    private boolean isFit(int sheet, Life one, int godmother) {
        tried.become(one);
        tried.sworn = godmother;
        int size = cupboard.sizeOf(sheet);
        for (int i = 0; i < size; i++) {
            now.passYearOf(tried, now.year + i);
            long due = cupboard.itemAt(sheet, i);
            if (due != -1 && due != tried.trait) return false;
        }
        return true;
    }

    // ---- odds

    public long odds(int n, int k, int part) {
        if (!within(n, MOST_BIRTHS) || !within(k, n) || !within(part, 1)) return BAD;
        long slip = now.laws[SLIP];
        long above = ways(n, k) * power(slip, k) * power(HUNDRED - slip, n - k);
        return partOf(above, power(HUNDRED, n), part);
    }

    public long hope(int n, int part) {
        if (!within(n, HIGHEST) || !within(part, 1)) return BAD;
        return partOf((long) n * now.laws[SLIP], HUNDRED, part);
    }

    private static long ways(int n, int k) {
        long ways = 1;
        for (int i = 1; i <= k; i++) ways = ways * (n - k + i) / i;
        return ways;
    }

    private static long power(long base, int n) {
        long power = 1;
        for (int i = 0; i < n; i++) power *= base;
        return power;
    }

    private static long partOf(long above, long below, int part) {
        long divisor = commonDivisor(above, below);
        if (divisor == 0) return BAD;
        return (part == 0 ? above : below) / divisor;
    }

    /** Each second step halves the greater at least, so 200 steps are plenty for two longs. */
    private static long commonDivisor(long a, long b) {
        long greater = a;
        long less = b;
        for (int i = 0; i < 200 && less != 0; i++) {
            long rest = greater % less;
            greater = less;
            less = rest;
        }
        return greater;
    }

    // ---- rows of years

    public int prove(int child, int n) {
        Life one = now.life(child);
        if (one == null || n < 1 || n > MOST_ROWS) return BAD;
        tried.become(one);
        for (int i = 0; i < n; i++) {
            now.passYearOf(tried, now.year + i);
            for (int what = 0; what < ROW_WIDTH; what++) rows[i * ROW_WIDTH + what] = toldOfTried(what);
        }
        rowCount = n;
        return n;
    }

    /** What a ROW tells of the one that is tried. */
    private int toldOfTried(int what) {
        switch (what) {
            case 0: return tried.trait;
            case 1: return tried.age;
            default: return tried.distance();
        }
    }

    private boolean isInRows(int i, int what) {
        return within(i, rowCount - 1) && within(what, ROW_WIDTH - 1);
    }

    public int row(int i, int what) {
        return isInRows(i, what) ? rows[i * ROW_WIDTH + what] : NO_ROW;
    }

    public int alterRow(int i, int what, int v) {
        if (!isInRows(i, what)) return NO_ROW;
        int was = rows[i * ROW_WIDTH + what];
        rows[i * ROW_WIDTH + what] = v;
        return was;
    }

    public int judge(int child) {
        Life one = now.life(child);
        if (one == null) return BAD;
        tried.become(one);
        for (int i = 0; i < rowCount; i++) {
            now.passYearOf(tried, now.year + i);
            for (int what = 0; what < ROW_WIDTH; what++) {
                if (rows[i * ROW_WIDTH + what] != toldOfTried(what)) return i + 1;
            }
        }
        return 0;
    }

    // ---- sheets and shelves

    public int minds(int sheet, int i, int child, int n) {
        if (!cupboard.isSheet(sheet) || now.life(child) == null || !within(n, MOST_CHILDREN)) return BAD;
        if (child + n > now.count) return BAD;
        if (cupboard.isMissing(sheet)) return NOTHING;
        if (cupboard.sortOf(sheet) != Cupboard.BYTES) return OTHER_SORT;
        int size = cupboard.sizeOf(sheet);
        if (!within(i, size) || n > size - i) return OUTSIDE;
        for (int k = 0; k < n; k++) {
            Life one = now.life(child + k);
            if (one != null) one.trait = held((int) cupboard.itemAt(sheet, i + k));
        }
        return n;
    }

    public int sheet(int sheet, int sort, int n) {
        if (!cupboard.isSheet(sheet) || sort < Cupboard.MISSING || sort > Cupboard.LONGS) return BAD;
        if (sort == Cupboard.MISSING) {
            cupboard.lay(sheet, sort, 0);
            return 1;
        }
        if (n > Cupboard.MOST_ITEMS) return BAD;
        if (n < 0) return SIZE_BELOW_0;
        cupboard.lay(sheet, sort, n);
        return 1;
    }

    public int put(int sheet, int i, int v) {
        if (!cupboard.isSheet(sheet)) return BAD;
        if (cupboard.isMissing(sheet)) return NOTHING;
        return cupboard.write(sheet, i, v) ? 1 : OUTSIDE;
    }

    public int item(int sheet, int sort, int i) {
        if (!cupboard.isSheet(sheet) || !within(sort, Cupboard.LONGS)) return BAD;
        if (cupboard.isMissing(sheet)) return NOTHING;
        if (cupboard.sortOf(sheet) != sort) return OTHER_SORT;
        return within(i, cupboard.sizeOf(sheet) - 1) ? (int) cupboard.itemAt(sheet, i) : OUTSIDE;
    }

    public int shelf(int shelf, int what, int n) {
        if (!cupboard.isShelf(shelf)) return BAD;
        switch (what) {
            case 0:
                if (now.life(n) == null) return BAD;
                cupboard.shelveChild(shelf, n);
                return 1;
            case 1:
                if (!cupboard.isSheet(n)) return BAD;
                cupboard.shelveRow(shelf, n);
                return 1;
            case 2:
                cupboard.shelveNothing(shelf);
                return 1;
            default:
                return BAD;
        }
    }

    public int taken(int shelf, int as) {
        boolean asRow = as >= 10 && as <= 10 + Cupboard.LONGS;
        if (!cupboard.isShelf(shelf) || !asRow && !within(as, KINDS - 1)) return BAD;
        int sort = cupboard.shelvedSort(shelf);
        if (sort != Cupboard.MISSING) return as - 10 == sort ? cupboard.shelvedSize(shelf) : OTHER_SORT;
        int number = cupboard.shelvedChild(shelf);
        Life one = now.life(number);
        if (one == null) return NOTHING;
        return isUnder(now.kindOf(one), as) ? number : OTHER_SORT;
    }

    private static boolean isUnder(Child thing, int as) {
        switch (as) {
            case 0: return thing instanceof Child;
            case 1: return thing instanceof Heir;
            case 2: return thing instanceof Urchin;
            case 3: return thing instanceof Curate;
            case 4: return thing instanceof Reformer;
            case 5: return thing instanceof Twin;
            default: return false;
        }
    }

    // ---- acts

    /** The bodies are called from here straight: with them calls go as deep as they may. */
    public int act(int shelf, int act, int x) {
        int number = cupboard.shelvedChild(shelf);
        Life one = now.life(number);
        deed.begin(number, one == null ? 0 : one.sworn);
        if (one == null) return 0;
        Child thing = now.kindOf(one);
        int answer;
        switch (act) {
            case 0:
                answer = thing.kicks(x, deed);
                break;
            case 1:
                answer = thing.prays(x, deed);
                break;
            case 2:
                answer = thing.parts(x, deed);
                break;
            case 3:
                answer = thing.grows(x, deed);
                break;
            default:
                answer = 0;
        }
        return deed.isParted ? PARTED_BY_0 : answer;
    }

    public int trace(int i) {
        return within(i, deed.count - 1) ? deed.bodies[i] : NONE;
    }

    // ---- the whole

    public int many(int what) {
        switch (what) {
            case 0: return now.count;
            case 1: return now.count - Integer.bitCount(now.ofAge());
            case 2: return Integer.bitCount(now.easySet);
            case 3: return now.godmothersInUse();
            case 4: return rowCount;
            case 5: return text.count;
            case 6: return deed.count;
            default: return BAD;
        }
    }

    public int keep() {
        kept.become(now);
        isKept = true;
        return 1;
    }

    public int again() {
        if (!isKept) return NONE;
        now.become(kept);
        return now.count;
    }

    // ---- what numbers may be

    private static boolean within(int v, int most) {
        return v >= 0 && v <= most;
    }

    private static boolean isGodmother(int godmother) {
        return within(godmother, GODMOTHERS - 1);
    }

    private static boolean isKindWithFire(int kind, int fire) {
        return within(kind, KINDS - 1) && within(fire, MOST_FIRE);
    }

    private static boolean isPlan(int n) {
        return n >= 1 && n <= LONGEST_PLAN;
    }

    private static int held(int trait) {
        return Math.max(0, Math.min(HIGHEST, trait));
    }

    /** The state that is kept: laws, godmothers, children, YEAR and z. */
    static final class Church {
        final int[] laws, vices;
        int easySet, count, year, z;
        private final Life[] lives;
        private final Child[] kinds;

        Church(Child[] kinds) {
            this.kinds = kinds;
            laws = new int[LAWS];
            vices = new int[GODMOTHERS];
            lives = new Life[MOST_CHILDREN];
            for (int i = 0; i < MOST_CHILDREN; i++) lives[i] = new Life();
            beAsAtFirst();
            z = 1;
        }

        /** All but z, which a text leaves as it is. */
        void beAsAtFirst() {
            for (int i = 0; i < LAWS; i++) laws[i] = LAW_AT_FIRST[i];
            for (int i = 0; i < GODMOTHERS; i++) vices[i] = HALF;
            easySet = 0;
            count = 0;
            year = 0;
        }

        void become(Church other) {
            for (int i = 0; i < LAWS; i++) laws[i] = other.laws[i];
            for (int i = 0; i < GODMOTHERS; i++) vices[i] = other.vices[i];
            for (int i = 0; i < MOST_CHILDREN; i++) lives[i].become(other.lives[i]);
            easySet = other.easySet;
            count = other.count;
            year = other.year;
            z = other.z;
        }

        /** Null, if there is no such one. */
        Life life(int child) {
            return within(child, Math.min(count, MOST_CHILDREN) - 1) ? lives[child] : null;
        }

        /** One more, yet to be begun; null, if there are as many as can be. */
        Life added() {
            if (count >= MOST_CHILDREN) return null;
            count++;
            return life(count - 1);
        }

        boolean isEasy(int godmother) {
            return (easySet >> godmother & 1) == 1;
        }

        Child kindOf(Life one) {
            return kinds[within(one.kind, KINDS - 1) ? one.kind : 0];
        }

        int movesOf(Life one) {
            return kindOf(one).moves(one.fire, this, year);
        }

        int endsOf(Life one) {
            return kindOf(one).ends(one.fire, this);
        }

        int yearsLeft(int child) {
            Life one = life(child);
            return one == null ? 0 : Math.max(0, endsOf(one) - one.age);
        }

        /** The YEAR numbered when, for one alone: no one moves another. */
        void passYearOf(Life one, int when) {
            Child as = kindOf(one);
            if (one.age < as.ends(one.fire, this) && isGodmother(one.sworn)) {
                one.move(as.moves(one.fire, this, when), vices[one.sworn], isEasy(one.sworn));
            }
            one.age = Math.min(HIGHEST, one.age + 1);
        }

        void passYear() {
            for (int i = 0; i < count; i++) {
                Life one = life(i);
                if (one != null) passYearOf(one, year);
            }
            year++;
        }

        private int draw() {
            z = z * 1103515245 + 12345;
            return z >>> 16;
        }

        /** By draws: the one that slips * GODMOTHERS + to whom; below 0, if none does. */
        int drawSlip() {
            if (count <= 0) return NONE;
            int child = draw() % count;
            if (draw() % HUNDRED >= laws[SLIP]) return NONE;
            return child * GODMOTHERS + draw() % GODMOTHERS;
        }

        int traitsTogether() {
            int sum = 0;
            for (int i = 0; i < count; i++) {
                Life one = life(i);
                if (one != null) sum += one.trait;
            }
            return sum;
        }

        int farTogether() {
            int sum = 0;
            for (int i = 0; i < count; i++) {
                Life one = life(i);
                if (one != null) sum += one.distance();
            }
            return sum;
        }

        int vicesTogether() {
            int sum = 0;
            for (int i = 0; i < GODMOTHERS; i++) sum += vices[i];
            return sum;
        }

        int ofAge() {
            int set = 0;
            for (int i = 0; i < count; i++) {
                if (yearsLeft(i) == 0) set |= 1 << i;
            }
            return set;
        }

        int swornTo(int godmother) {
            int set = 0;
            for (int i = 0; i < count; i++) {
                Life one = life(i);
                if (one != null && one.sworn == godmother) set |= 1 << i;
            }
            return set;
        }

        int godmothersInUse() {
            int many = 0;
            for (int i = 0; i < GODMOTHERS; i++) {
                if (swornTo(i) != 0) many++;
            }
            return many;
        }
    }

    /** One of the CHILDREN. */
    static final class Life {
        static final int KIND = 0, TRAIT = 1, FIRE = 2, WISH = 3, AGE = 4, SWORN = 5;

        int kind, trait, fire, wish, age, sworn;

        int mark(int what) {
            switch (what) {
                case KIND: return kind;
                case TRAIT: return trait;
                case FIRE: return fire;
                case WISH: return wish;
                case AGE: return age;
                default: return sworn;
            }
        }

        void remark(int what, int v) {
            switch (what) {
                case KIND:
                    kind = v;
                    break;
                case TRAIT:
                    trait = v;
                    break;
                case FIRE:
                    fire = v;
                    break;
                case WISH:
                    wish = v;
                    break;
                case AGE:
                    age = v;
                    break;
                default:
                    sworn = v;
            }
        }

        void begin(int asKind, int withTrait, int withFire, int swornTo) {
            kind = asKind;
            trait = withTrait;
            fire = withFire;
            sworn = swornTo;
            wish = HALF;
            age = 0;
        }

        void become(Life other) {
            kind = other.kind;
            trait = other.trait;
            fire = other.fire;
            wish = other.wish;
            age = other.age;
            sworn = other.sworn;
        }

        /** By how much its TRAIT differs from its WISH. */
        int distance() {
            return Math.abs(trait - wish);
        }

        /** Away from a VICE, or towards that of an easy one. */
        void move(int by, int vice, boolean isEasy) {
            if (!isEasy) trait = held(trait >= vice ? trait + by : trait - by);
            else if (trait < vice) trait = Math.min(vice, trait + by);
            else trait = Math.max(vice, trait - by);
        }
    }

    /** What a child MOVES, when it ENDS, and its ACTS; the other KINDS stand under it. */
    static class Child {
        int moves(int fire, Church church, int when) {
            return fire;
        }

        int ends(int fire, Church church) {
            return 21;
        }

        int kicks(int x, Deed deed) {
            deed.runs(10);
            return x * 9 - deed.number;
        }

        int prays(int x, Deed deed) {
            deed.runs(11);
            return kicks(x, deed) - deed.sworn * 2;
        }

        int parts(int x, Deed deed) {
            deed.runs(12);
            return deed.parted(x);
        }

        int grows(int x, Deed deed) {
            deed.runs(13);
            return prays(x, deed) ^ 80;
        }
    }

    static class Heir extends Child {
        int moves(int fire, Church church, int when) {
            return super.moves(fire, church, when) / 2;
        }

        int ends(int fire, Church church) {
            return super.ends(fire, church) + 4;
        }

        int prays(int x, Deed deed) {
            deed.runs(20);
            return super.prays(x, deed) + 3;
        }
    }

    static class Urchin extends Child {
        int moves(int fire, Church church, int when) {
            return super.moves(fire, church, when) + church.laws[SLUM];
        }

        int ends(int fire, Church church) {
            return super.ends(fire, church) - 7;
        }

        int kicks(int x, Deed deed) {
            deed.runs(30);
            return 0 - super.kicks(x, deed);
        }

        int grows(int x, Deed deed) {
            deed.runs(31);
            return super.grows(x, deed) + parts(deed.number, deed);
        }
    }

    static final class Curate extends Heir {
        int moves(int fire, Church church, int when) {
            return super.moves(fire, church, when) + church.laws[PIETY];
        }

        int ends(int fire, Church church) {
            return super.ends(fire, church) - church.laws[PIETY];
        }

        int parts(int x, Deed deed) {
            deed.runs(50);
            return super.parts(x * 2, deed) - 4;
        }

        int kicks(int x, Deed deed) {
            deed.runs(51);
            return super.kicks(x, deed) + deed.sworn;
        }
    }

    static final class Reformer extends Urchin {
        int moves(int fire, Church church, int when) {
            return super.moves(fire, church, when) * 2;
        }

        int ends(int fire, Church church) {
            return super.ends(fire, church) + fire;
        }

        int kicks(int x, Deed deed) {
            deed.runs(40);
            return super.kicks(x, deed) ^ 6;
        }

        int prays(int x, Deed deed) {
            deed.runs(41);
            return super.prays(x, deed) - kicks(deed.sworn, deed);
        }
    }

    static final class Twin extends Child {
        int moves(int fire, Church church, int when) {
            return when % 2 == 0 ? super.moves(fire, church, when) : 0;
        }

        int grows(int x, Deed deed) {
            deed.runs(60);
            return super.grows(x, deed) * 3;
        }

        int parts(int x, Deed deed) {
            deed.runs(61);
            return super.parts(x, deed) + kicks(deed.number, deed);
        }
    }

    /** One act(): who does it, and THE TRACE of it. */
    static final class Deed {
        private static final int MOST_BODIES = 30;

        final int[] bodies;
        int count, number, sworn;
        boolean isParted;

        Deed() {
            bodies = new int[MOST_BODIES];
        }

        void begin(int ofNumber, int swornTo) {
            number = ofNumber;
            sworn = swornTo;
            count = 0;
            isParted = false;
        }

        /** Behind a parting by 0 no body runs any more: what is still computed goes nowhere. */
        void runs(int body) {
            if (isParted || count < 0 || count >= MOST_BODIES) return;
            bodies[count] = body;
            count++;
        }

        int parted(int x) {
            int by = sworn - number;
            if (by == 0) {
                isParted = true;
                return 0;
            }
            return x / by;
        }
    }

    /** THE TAPE, and how its bytes tell a church. */
    static final class Text {
        private static final int MOST_BYTES = 200, MOST_DIGITS = 3;
        private static final int END = 0, NAME = 1, NUMBER = 2, OTHER = 3;
        private static final int NO_FAULT = -1, NOT_A_NUMBER = -1;

        int count;
        private final byte[] bytes;
        private int begin, end, sort, fault;

        Text() {
            bytes = new byte[MOST_BYTES];
        }

        boolean takes(long eight, int n) {
            if (n < 0 || n > MOST_BYTES - count) return false;
            for (int i = 0; i < n; i++) {
                if (within(count, MOST_BYTES - 1)) bytes[count] = (byte) (eight >> 8 * i);
                count++;
            }
            return true;
        }

        /** The FAULT, or below 0, if there is none. Each statement uses up a byte at least. */
        int tells(Church church) {
            end = 0;
            fault = NO_FAULT;
            step();
            for (int i = 0; i <= MOST_BYTES && fault < 0 && sort != END; i++) tellStatement(church);
            return fault;
        }

        private void tellStatement(Church church) {
            int kind = kindTold();
            int law = lawTold();
            if (kind >= 0) {
                tellChild(church, kind);
            } else if (law >= 0) {
                step();
                church.laws[law] = number(LAW_MOST[law]);
            } else if (isName("vice")) {
                step();
                int godmother = number(GODMOTHERS - 1);
                name("is");
                church.vices[godmother] = number(HIGHEST);
            } else if (isName("easy")) {
                step();
                church.easySet |= 1 << number(GODMOTHERS - 1);
            } else {
                failHere();
            }
            semicolon();
        }

        private void tellChild(Church church, int kind) {
            Life one = church.added();
            if (one == null) {
                failHere();
                return;
            }
            step();
            name("to");
            int godmother = number(GODMOTHERS - 1);
            int trait = option("trait", HIGHEST, HALF);
            int fire = option("fire", MOST_FIRE, FIRE_UNTOLD);
            one.begin(kind, trait, fire, godmother);
            one.wish = option("wish", HIGHEST, HALF);
            one.age = option("age", HIGHEST, 0);
        }

        private int kindTold() {
            if (isName("child")) return 0;
            if (isName("heir")) return 1;
            if (isName("urchin")) return 2;
            if (isName("curate")) return 3;
            if (isName("reformer")) return 4;
            if (isName("twin")) return 5;
            return NONE;
        }

        private int lawTold() {
            if (isName("piety")) return PIETY;
            if (isName("slum")) return SLUM;
            if (isName("room")) return ROOM;
            if (isName("slip")) return SLIP;
            return NONE;
        }

        private int option(String name, int most, int untold) {
            if (fault >= 0 || !isName(name)) return untold;
            step();
            return number(most);
        }

        /** Behind a FAULT nothing more is taken: the first one stands. */
        private void failHere() {
            if (fault < 0) fault = begin;
        }

        private void name(String name) {
            if (isName(name)) step();
            else failHere();
        }

        /** A NUMBER from 0 to most; 0, if there is a FAULT. */
        private int number(int most) {
            int value = valueTold();
            if (!within(value, most)) failHere();
            if (fault >= 0) return 0;
            step();
            return value;
        }

        private void semicolon() {
            if (sort == OTHER && byteAt(begin) == ';') step();
            else failHere();
        }

        private boolean isName(String name) {
            if (sort != NAME || end - begin != name.length()) return false;
            for (int i = 0; i < name.length(); i++) {
                if (byteAt(begin + i) != name.charAt(i)) return false;
            }
            return true;
        }

        private int valueTold() {
            if (sort != NUMBER || end - begin > MOST_DIGITS) return NOT_A_NUMBER;
            int value = 0;
            for (int i = begin; i < end; i++) value = value * 10 + byteAt(i) - '0';
            return value;
        }

        /** To the next NAME, NUMBER, other byte, or the end: from begin up to end. */
        private void step() {
            begin = end;
            for (int i = 0; i < MOST_BYTES && byteAt(begin) == ' '; i++) begin++;
            sort = sortAt(begin);
            end = sort == END ? begin : begin + 1;
            boolean goesOn = sort == NAME || sort == NUMBER;
            for (int i = 0; i < MOST_BYTES && goesOn && sortAt(end) == sort; i++) end++;
        }

        private int sortAt(int place) {
            if (place < 0 || place >= count || place >= MOST_BYTES) return END;
            int sign = bytes[place];
            if (sign >= 'a' && sign <= 'z') return NAME;
            return sign >= '0' && sign <= '9' ? NUMBER : OTHER;
        }

        /** 0 behind the end, which is nothing that a text could want. */
        private int byteAt(int place) {
            return place >= 0 && place < count && place < MOST_BYTES ? bytes[place] : 0;
        }
    }

    /**
     * SHEETS and SHELVES. A row on a SHELF stays when its SHEET becomes another, so the SHELF has its sort and size;
     * its items are never asked for there.
     */
    static final class Cupboard {
        static final int MISSING = -1, BYTES = 0, SHORTS = 1, LONGS = 3;
        static final int MOST_ITEMS = 40;
        private static final int PLACES = 4, NO_CHILD = -1;

        private final int[] sorts, sizes, shelvedSorts, shelvedSizes, shelvedChildren;
        private final long[] items;

        Cupboard() {
            sorts = new int[PLACES];
            sizes = new int[PLACES];
            shelvedSorts = new int[PLACES];
            shelvedSizes = new int[PLACES];
            shelvedChildren = new int[PLACES];
            items = new long[PLACES * MOST_ITEMS];
            for (int i = 0; i < PLACES; i++) {
                sorts[i] = MISSING;
                shelvedSorts[i] = MISSING;
                shelvedChildren[i] = NO_CHILD;
            }
        }

        boolean isSheet(int sheet) {
            return within(sheet, PLACES - 1);
        }

        boolean isShelf(int shelf) {
            return within(shelf, PLACES - 1);
        }

        int sortOf(int sheet) {
            return isSheet(sheet) ? sorts[sheet] : MISSING;
        }

        int sizeOf(int sheet) {
            return isSheet(sheet) ? sizes[sheet] : 0;
        }

        boolean isMissing(int sheet) {
            return sortOf(sheet) == MISSING;
        }

        void lay(int sheet, int sort, int size) {
            if (!isSheet(sheet) || !within(size, MOST_ITEMS)) return;
            sorts[sheet] = sort;
            sizes[sheet] = size;
            for (int i = 0; i < size; i++) items[sheet * MOST_ITEMS + i] = 0;
        }

        private boolean isItem(int sheet, int i) {
            return isSheet(sheet) && within(i, sizes[sheet] - 1);
        }

        long itemAt(int sheet, int i) {
            return isItem(sheet, i) ? items[sheet * MOST_ITEMS + i] : 0;
        }

        boolean write(int sheet, int i, int v) {
            if (!isItem(sheet, i)) return false;
            items[sheet * MOST_ITEMS + i] = narrowed(v, sorts[sheet]);
            return true;
        }

        private static int narrowed(int v, int sort) {
            switch (sort) {
                case BYTES: return (byte) v;
                case SHORTS: return (short) v;
                default: return v;
            }
        }

        void shelveChild(int shelf, int child) {
            shelve(shelf, child, MISSING, 0);
        }

        void shelveRow(int shelf, int sheet) {
            shelve(shelf, NO_CHILD, sortOf(sheet), sizeOf(sheet));
        }

        void shelveNothing(int shelf) {
            shelve(shelf, NO_CHILD, MISSING, 0);
        }

        private void shelve(int shelf, int child, int sort, int size) {
            if (!isShelf(shelf)) return;
            shelvedChildren[shelf] = child;
            shelvedSorts[shelf] = sort;
            shelvedSizes[shelf] = size;
        }

        int shelvedChild(int shelf) {
            return isShelf(shelf) ? shelvedChildren[shelf] : NO_CHILD;
        }

        int shelvedSort(int shelf) {
            return isShelf(shelf) ? shelvedSorts[shelf] : MISSING;
        }

        int shelvedSize(int shelf) {
            return isShelf(shelf) ? shelvedSizes[shelf] : 0;
        }
    }
}
