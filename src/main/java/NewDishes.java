import java.util.Arrays;

/** The bureau of an emperor who eats no dish a second time. */
public final class NewDishes {
    private static final int BEYOND = -1000000001;
    private static final int FULL = -1000000002;
    private static final int KIND = -1000000003;
    private static final int NONE = -1000000004;
    private static final int STATE = -1000000005;
    private static final int MISSING = -1000000006;
    private static final int SIZE = -1000000007;
    private static final int FINDINGS = 7;

    private static final int THINGS = 8;
    private static final int WAYS = 5;
    private static final int SAUCES = 4;
    private static final int MOST_STORE = 99;
    private static final int MOST_LIKED = 9;
    private static final int LAST_DAY = 9999;
    private static final int MOST_ENTRIES = 30;
    private static final int MOST_MEALS = 30;
    private static final int MOST_LASTING = 60;
    private static final int MOST_STEPS = 12;
    private static final int MOST_NEAR = 8;

    private static final int EDICTS = 2;
    private static final int SAUCES_MATTER = 1;
    private static final int WAYS_MATTER = 2;

    private static final int KINDS = 6;
    private static final int ENTRY = 0;
    private static final int PARTED = 1;
    private static final int GUEST = 2;
    private static final int NAMED = 3;
    private static final int FEAST = 4;
    private static final int SECRET = 5;
    /** The kind right above each kind; -1 above the first. */
    private static final int[] ABOVE = {-1, 0, 0, 0, 1, 3};

    // A manner is a way and a sauce together, told as 4 times the way and the
    // sauce; several manners at once are told by bits.
    private static final int MANNERS = 20;
    private static final int ALL_MANNERS = 0xFFFFF;
    private static final int ALL_SAUCES = 0xF;
    private static final int ONE_SAUCE_IN_ALL_WAYS = 0x11111;

    private static final int DISHES = 92 * MANNERS;
    private static final int LAST_DISH = 4499;
    /** How long a row is that has a place for every set of things. */
    private static final int ALL_SETS = 256;
    /** The sets of one to three things, the least first. */
    private static final int[] SETS = {
        1, 2, 3, 4, 5, 6, 7, 8, 9, 10, 11, 12, 13, 14, 16, 17, 18, 19, 20, 21, 22, 24, 25, 26, 28,
        32, 33, 34, 35, 36, 37, 38, 40, 41, 42, 44, 48, 49, 50, 52, 56,
        64, 65, 66, 67, 68, 69, 70, 72, 73, 74, 76, 80, 81, 82, 84, 88, 96, 97, 98, 100, 104, 112,
        128, 129, 130, 131, 132, 133, 134, 136, 137, 138, 140, 144, 145, 146, 148, 152,
        160, 161, 162, 164, 168, 176, 192, 193, 194, 196, 200, 208, 224};

    private static final int SHEETS = 4;
    private static final int MOST_NUMBERS = 40;
    private static final int MOST_BYTES = 120;

    private final Bureau bureau = new Bureau();
    private final Bureau kept = new Bureau();
    private final Bureau draft = new Bureau();
    private boolean isKept = false;
    private final Kitchen kitchen = new Kitchen();
    private final Paths paths = new Paths();
    private final Tape tape = new Tape();
    private final Sheet[] sheets = new Sheet[SHEETS];
    private final int[] findings = new int[FINDINGS];

    public NewDishes() {
        for (int s = 0; s < SHEETS; s++) {
            sheets[s] = new Sheet();
        }
    }

    // ---- things, edicts

    public int store(int thing, int v) {
        if (!isBelow(thing, THINGS) || v < 0 || v > MOST_STORE) {
            return finding(BEYOND);
        }
        int was = bureau.stores[thing];
        bureau.stores[thing] = v;
        return was;
    }

    public int storeOf(int thing) {
        return isBelow(thing, THINGS) ? bureau.stores[thing] : finding(BEYOND);
    }

    public int like(int what, int which, int v) {
        if (!isBelow(what, 3) || v < -MOST_LIKED || v > MOST_LIKED) {
            return finding(BEYOND);
        }
        int[] liked = bureau.likedOf(what);
        if (!isBelow(which, liked.length)) {
            return finding(BEYOND);
        }
        int was = liked[which];
        liked[which] = v;
        return was;
    }

    public int edict(int which, boolean is) {
        if (!isBelow(which, EDICTS)) {
            return finding(BEYOND);
        }
        return bureau.decree(which, is) ? 1 : 0;
    }

    // ---- dishes

    public int dish(int set, int way, int sauce) {
        if (!isSet(set) || !isBelow(way, WAYS) || !isBelow(sauce, SAUCES)) {
            return finding(BEYOND);
        }
        return dishNumber(set, way, sauce);
    }

    public int of(int dish, int what) {
        if (!isDish(dish)) {
            return finding(BEYOND);
        }
        switch (what) {
            case 0: return setOf(dish);
            case 1: return wayOf(dish);
            case 2: return sauceOf(dish);
            case 3: return bureau.liking(dish);
            case 4: return bureau.canBe(dish) ? 1 : 0;
            case 5: return bureau.isNew(dish) ? 1 : 0;
            default: return finding(BEYOND);
        }
    }

    public int near(int one, int other) {
        if (!isDish(one) || !isDish(other)) {
            return finding(BEYOND);
        }
        return nearness(one, other);
    }

    public int nearHad(int dish, int n) {
        if (!isDish(dish) || n < 0 || n > MOST_NEAR) {
            return finding(BEYOND);
        }
        return bureau.hadNear(dish, n);
    }

    public int many(int what) {
        if (!isBelow(what, 4)) {
            return finding(BEYOND);
        }
        kitchen.begin(bureau);
        switch (what) {
            case 0: return kitchen.possible();
            case 1: return kitchen.barred.unbarred();
            case 2: return kitchen.servable();
            default: return DISHES - kitchen.possible() - kitchen.barred.unbarred() + kitchen.servable();
        }
    }

    public int next(int number) {
        if (number < 0) {
            return finding(BEYOND);
        }
        kitchen.begin(bureau);
        return orNone(kitchen.firstFrom(number));
    }

    // ---- the book

    public int enter(int kind, int dish) {
        if (!isBelow(kind, KINDS) || !isDish(dish)) {
            return finding(BEYOND);
        }
        if (bureau.isFull()) {
            return finding(FULL);
        }
        return bureau.note(kind, dish);
    }

    public int entryOf(int entry, int what) {
        if (!isBelow(entry, bureau.entries)) {
            return finding(BEYOND);
        }
        switch (what) {
            case 0: return bureau.kinds[entry];
            case 1: return bureau.dishes[entry];
            case 2: return bureau.days[entry];
            case 3: return howManyBars(bureau.kinds[entry], bureau.dishes[entry], bureau.edicts);
            default: return finding(BEYOND);
        }
    }

    public int turn(int entry, int kind) {
        if (!isBelow(entry, bureau.entries) || !isBelow(kind, KINDS)) {
            return finding(BEYOND);
        }
        int was = bureau.kinds[entry];
        bureau.kinds[entry] = kind;
        return was;
    }

    public int as(int entry, int kind) {
        if (!isBelow(entry, bureau.entries) || !isBelow(kind, KINDS)) {
            return finding(BEYOND);
        }
        if (!isOfKind(bureau.kinds[entry], kind)) {
            return finding(KIND);
        }
        return bureau.dishes[entry];
    }

    public int strike() {
        if (bureau.entries <= 0) {
            return finding(NONE);
        }
        bureau.entries--;
        return bureau.dishes[bureau.entries];
    }

    public int bars(int entry, int dish) {
        if (!isBelow(entry, bureau.entries) || !isDish(dish)) {
            return finding(BEYOND);
        }
        return bureau.isBarredBy(entry, dish) ? 1 : 0;
    }

    public int by(int dish) {
        if (!isDish(dish)) {
            return finding(BEYOND);
        }
        return orNone(bureau.firstBarring(dish, bureau.entries));
    }

    public int breach() {
        return orNone(bureau.firstBreach());
    }

    public int keenest() {
        kitchen.begin(bureau);
        int best = -1;
        int most = -1;
        for (int e = 0; e < bureau.entries; e++) {
            int alone = kitchen.barred.barredAloneBy(bureau.kinds[e], bureau.dishes[e], bureau.edicts);
            if (alone > most) {
                most = alone;
                best = e;
            }
        }
        return orNone(best);
    }

    public int wouldBe(int edict) {
        if (!isBelow(edict, EDICTS)) {
            return finding(BEYOND);
        }
        kitchen.barred.barAll(bureau, bureau.edicts);
        int now = kitchen.barred.unbarred();
        kitchen.barred.barAll(bureau, bureau.edicts ^ (1 << edict));
        return kitchen.barred.unbarred() - now;
    }

    // ---- meals

    public int best() {
        kitchen.begin(bureau);
        return orNone(kitchen.favourite());
    }

    public int serve(int kind, int dish) {
        if (!isBelow(kind, KINDS) || !isDish(dish)) {
            return finding(BEYOND);
        }
        if (!bureau.canServe(kind, dish) || bureau.day >= LAST_DAY) {
            return finding(STATE);
        }
        if (bureau.isFull()) {
            return finding(FULL);
        }
        return bureau.haveMeal(kind, dish);
    }

    public int meals(int kind, int n) {
        if (!isBelow(kind, KINDS) || n < 1 || n > MOST_MEALS) {
            return finding(BEYOND);
        }
        if (bureau.day + n > LAST_DAY) {
            return finding(STATE);
        }
        kitchen.begin(bureau);
        for (int meal = 0; meal < n; meal++) {
            int dish = bureau.isFull() ? -1 : kitchen.cookFavourite(kind);
            if (dish < 0) {
                return meal;
            }
            bureau.haveMeal(kind, dish);
        }
        return n;
    }

    public int on(int kind, int n) {
        if (!isBelow(kind, KINDS) || n < 1 || n > MOST_MEALS) {
            return finding(BEYOND);
        }
        kitchen.begin(bureau);
        int dish = -1;
        for (int meal = 0; meal < n; meal++) {
            dish = kitchen.cookFavourite(kind);
            if (dish < 0) {
                return finding(NONE);
            }
        }
        return dish;
    }

    public int lasts(int kind) {
        if (!isBelow(kind, KINDS)) {
            return finding(BEYOND);
        }
        kitchen.begin(bureau);
        return kitchen.mealsLeft(kind);
    }

    public int buy(int kind) {
        if (!isBelow(kind, KINDS)) {
            return finding(BEYOND);
        }
        kitchen.begin(bureau);
        int most = kitchen.mealsLeft(kind);
        int best = -1;
        for (int thing = 0; thing < THINGS; thing++) {
            kitchen.begin(bureau);
            kitchen.stock[thing]++;
            int meals = kitchen.mealsLeft(kind);
            if (meals > most) {
                most = meals;
                best = thing;
            }
        }
        return orNone(best);
    }

    public int steps(int from, int to) {
        if (!isDish(from) || !isDish(to)) {
            return finding(BEYOND);
        }
        kitchen.begin(bureau);
        return orNone(paths.stepsBetween(from, to, kitchen));
    }

    public int within(int dish, int n) {
        if (!isDish(dish) || n < 0 || n > MOST_STEPS) {
            return finding(BEYOND);
        }
        kitchen.begin(bureau);
        paths.reach(dish, n, kitchen);
        return countOf(paths.reached);
    }

    public int walk(int dish, int n) {
        if (!isDish(dish) || n < 1 || n > MOST_STEPS) {
            return finding(BEYOND);
        }
        kitchen.begin(bureau);
        paths.reach(dish, n, kitchen);
        return orNone(kitchen.favouriteAmong(paths.reached));
    }

    public int now(int what) {
        switch (what) {
            case 0: return bureau.day;
            case 1: return bureau.entries;
            case 2: return bureau.guests();
            case 3: return bureau.allStores();
            default: return finding(BEYOND);
        }
    }

    // ---- the text

    public int feed(int bytes, int n) {
        if (n < 1 || n > 4) {
            return finding(BEYOND);
        }
        if (tape.length + n > MOST_BYTES) {
            return finding(FULL);
        }
        for (int k = n - 1; k >= 0; k--) {
            tape.put((bytes >> (8 * k)) & 0xFF);
        }
        return tape.length;
    }

    public int wipe() {
        int had = tape.length;
        tape.length = 0;
        return had;
    }

    public int book() {
        // The items go into a draft, so that a fault leaves all as it was.
        draft.become(bureau);
        int answer = tape.tellTo(draft);
        tape.length = 0;
        if (answer >= 0) {
            bureau.become(draft);
        }
        return answer;
    }

    // ---- sheets

    public int sheet(int s, int bits, int n) {
        if (!isBelow(s, SHEETS) || (bits != 0 && bits != 8 && bits != 16 && bits != 64)) {
            return finding(BEYOND);
        }
        if (n < 0) {
            return finding(SIZE);
        }
        if (n > MOST_NUMBERS) {
            return finding(BEYOND);
        }
        sheets[s].lay(bits, n);
        return sheets[s].length;
    }

    public long write(int s, int i, long v) {
        int fault = sheetFault(s);
        if (fault != 0) {
            return finding(fault);
        }
        Sheet sheet = sheets[s];
        if (!isBelow(i, sheet.length)) {
            return finding(BEYOND);
        }
        long was = sheet.numbers[i];
        sheet.put(i, v);
        return was;
    }

    public int copy(int s, int from, int t, int to, int n) {
        if (!isBelow(s, SHEETS) || !isBelow(t, SHEETS)) {
            return finding(BEYOND);
        }
        Sheet source = sheets[s];
        Sheet target = sheets[t];
        if (source.isMissing() || target.isMissing()) {
            return finding(MISSING);
        }
        if (source.bits != target.bits) {
            return finding(KIND);
        }
        if (!source.hasPart(from, n) || !target.hasPart(to, n)) {
            return finding(BEYOND);
        }
        System.arraycopy(source.numbers, from, target.numbers, to, n);
        return n;
    }

    public int lays(int s) {
        int fault = sheetFault(s);
        if (fault != 0) {
            return finding(fault);
        }
        Sheet sheet = sheets[s];
        int came = 0;
        for (int i = 0; i < sheet.length && i < THINGS; i++) {
            long v = sheet.numbers[i];
            if (v >= 0 && v <= MOST_STORE) {
                bureau.stores[i] = (int) v;
                came++;
            }
        }
        return came;
    }

    public int menu(int s, int kind) {
        int fault = menuFault(s, kind);
        if (fault != 0) {
            return finding(fault);
        }
        Sheet sheet = sheets[s];
        kitchen.begin(bureau);
        for (int i = 0; i < sheet.length; i++) {
            int dish = kitchen.cookFavourite(kind);
            if (dish < 0) {
                return i;
            }
            sheet.put(i, dish);
        }
        return sheet.length;
    }

    public int read(int s, int kind) {
        int fault = menuFault(s, kind);
        if (fault != 0) {
            return finding(fault);
        }
        Sheet sheet = sheets[s];
        kitchen.begin(bureau);
        for (int i = 0; i < sheet.length; i++) {
            long v = sheet.numbers[i];
            if (v < 0 || v > LAST_DISH || !isDish((int) v) || !kitchen.canCook(kind, (int) v)) {
                return 1 + i;
            }
            kitchen.cook(kind, (int) v);
        }
        return 0;
    }

    // ---- images

    public int image() {
        kept.become(bureau);
        isKept = true;
        return 1;
    }

    public int undo() {
        if (!isKept) {
            return finding(NONE);
        }
        bureau.become(kept);
        return bureau.entries;
    }

    public int tear() {
        int was = isKept ? 1 : 0;
        isKept = false;
        return was;
    }

    public int count(int what) {
        switch (what) {
            case 0: return tape.length;
            case 1: return Integer.bitCount(bureau.edicts);
            default: return finding(BEYOND);
        }
    }

    public int status(int which) {
        if (which < -1 || which >= FINDINGS) {
            return finding(BEYOND);
        }
        if (which >= 0) {
            return findings[which];
        }
        int all = 0;
        for (int i = 0; i < FINDINGS; i++) {
            all += findings[i];
        }
        return all;
    }

    // ---- findings

    private int finding(int code) {
        int which = BEYOND - code;
        if (isBelow(which, FINDINGS)) {
            findings[which]++;
        }
        return code;
    }

    private int orNone(int answer) {
        return answer < 0 ? finding(NONE) : answer;
    }

    /** BEYOND or MISSING if there is no such sheet to use, else 0. */
    private int sheetFault(int s) {
        if (!isBelow(s, SHEETS)) {
            return BEYOND;
        }
        return sheets[s].isMissing() ? MISSING : 0;
    }

    /** As sheetFault, then BEYOND if there is no such kind. */
    private int menuFault(int s, int kind) {
        int fault = sheetFault(s);
        return fault == 0 && !isBelow(kind, KINDS) ? BEYOND : fault;
    }

    // ---- numbers of dishes

    private static boolean isBelow(int i, int bound) {
        return i >= 0 && i < bound;
    }

    private static boolean isSet(int set) {
        return set > 0 && set < ALL_SETS && Integer.bitCount(set) <= 3;
    }

    private static boolean isDish(int number) {
        return number >= 0 && isSet(setOf(number));
    }

    private static int dishNumber(int set, int way, int sauce) {
        return MANNERS * set + SAUCES * way + sauce;
    }

    private static int setOf(int dish) {
        return dish / MANNERS;
    }

    private static int mannerOf(int dish) {
        return dish % MANNERS;
    }

    private static int wayOf(int dish) {
        return dish % MANNERS / SAUCES;
    }

    private static int sauceOf(int dish) {
        return dish % SAUCES;
    }

    private static int nearness(int one, int other) {
        return Integer.bitCount(setOf(one) ^ setOf(other))
            + (wayOf(one) == wayOf(other) ? 0 : 1)
            + (sauceOf(one) == sauceOf(other) ? 0 : 1);
    }

    private static boolean hasBit(int bits, int i) {
        return ((bits >> i) & 1) != 0;
    }

    private static int countOf(int[] mannersBySet) {
        int sum = 0;
        for (int i = 0; i < mannersBySet.length; i++) {
            sum += Integer.bitCount(mannersBySet[i]);
        }
        return sum;
    }

    // ---- kinds of entries, and what they bar

    private static boolean isOfKind(int kind, int other) {
        int k = kind;
        for (int level = 0; level < KINDS && isBelow(k, KINDS); level++) {
            if (k == other) {
                return true;
            }
            k = ABOVE[k];
        }
        return false;
    }

    /** The manners that an entry of a kind, done in one manner, bars. */
    private static int mannersBarred(int kind, int manner, int edicts) {
        if (kind == GUEST) {
            return 0;
        }
        boolean heedsEdicts = kind == ENTRY || kind == PARTED;
        boolean asksWay = kind == NAMED || kind == SECRET
            || (heedsEdicts && (edicts & WAYS_MATTER) != 0);
        boolean asksSauce = kind == NAMED
            || (heedsEdicts && (edicts & SAUCES_MATTER) != 0);
        int manners = ALL_MANNERS;
        if (asksWay) {
            manners &= ALL_SAUCES << (manner - manner % SAUCES);
        }
        if (asksSauce) {
            manners &= ONE_SAUCE_IN_ALL_WAYS << (manner % SAUCES);
        }
        return manners;
    }

    private static boolean barsParts(int kind) {
        return kind == PARTED || kind == FEAST;
    }

    private static boolean isPartEitherWay(int one, int other) {
        int both = one & other;
        return both == one || both == other;
    }

    private static boolean barsSet(int kind, int entrySet, int set) {
        return barsParts(kind) ? isPartEitherWay(entrySet, set) : entrySet == set;
    }

    private static boolean barsDish(int kind, int entryDish, int dish, int edicts) {
        return barsSet(kind, setOf(entryDish), setOf(dish))
            && hasBit(mannersBarred(kind, mannerOf(entryDish), edicts), mannerOf(dish));
    }

    private static int howManyBars(int kind, int dish, int edicts) {
        int sets = 0;
        for (int i = 0; i < SETS.length; i++) {
            if (barsSet(kind, setOf(dish), SETS[i])) {
                sets++;
            }
        }
        return sets * Integer.bitCount(mannersBarred(kind, mannerOf(dish), edicts));
    }

    /** All that section 1 of the document tells, but for the tape. */
    private static final class Bureau {
        final int[] stores = new int[THINGS];
        final int[] likedThings = new int[THINGS];
        final int[] likedWays = new int[WAYS];
        final int[] likedSauces = new int[SAUCES];
        final int[] kinds = new int[MOST_ENTRIES];
        final int[] dishes = new int[MOST_ENTRIES];
        final int[] days = new int[MOST_ENTRIES];
        int entries = 0;
        int edicts = SAUCES_MATTER | WAYS_MATTER;
        int day = 0;

        Bureau() {
            Arrays.fill(stores, 5);
        }

        void become(Bureau other) {
            System.arraycopy(other.stores, 0, stores, 0, THINGS);
            System.arraycopy(other.likedThings, 0, likedThings, 0, THINGS);
            System.arraycopy(other.likedWays, 0, likedWays, 0, WAYS);
            System.arraycopy(other.likedSauces, 0, likedSauces, 0, SAUCES);
            System.arraycopy(other.kinds, 0, kinds, 0, MOST_ENTRIES);
            System.arraycopy(other.dishes, 0, dishes, 0, MOST_ENTRIES);
            System.arraycopy(other.days, 0, days, 0, MOST_ENTRIES);
            entries = other.entries;
            edicts = other.edicts;
            day = other.day;
        }

        /** How much things (what 0), ways (1) or sauces are liked. */
        int[] likedOf(int what) {
            if (what == 0) {
                return likedThings;
            }
            return what == 1 ? likedWays : likedSauces;
        }

        /** Whether that changes anything. */
        boolean decree(int which, boolean is) {
            boolean was = hasBit(edicts, which);
            if (is != was) {
                edicts ^= 1 << which;
            }
            return is != was;
        }

        int liking(int dish) {
            int sum = likedWays[wayOf(dish)] + likedSauces[sauceOf(dish)];
            for (int thing = 0; thing < THINGS; thing++) {
                if (hasBit(setOf(dish), thing)) {
                    sum += likedThings[thing];
                }
            }
            return sum;
        }

        boolean canBe(int dish) {
            return (setOf(dish) & ~inStore(stores)) == 0;
        }

        boolean isNew(int dish) {
            return firstBarring(dish, entries) < 0;
        }

        boolean canServe(int kind, int dish) {
            return canBe(dish) && (kind == GUEST || firstBarring(dish, entries) < 0);
        }

        boolean isFull() {
            return entries >= MOST_ENTRIES;
        }

        /** The number of the new entry, for which there must be room. */
        int note(int kind, int dish) {
            if (isFull()) {
                return -1;
            }
            kinds[entries] = kind;
            dishes[entries] = dish;
            days[entries] = day;
            entries++;
            return entries - 1;
        }

        int haveMeal(int kind, int dish) {
            int entry = note(kind, dish);
            takeFrom(stores, dish);
            day++;
            return entry;
        }

        boolean isBarredBy(int entry, int dish) {
            return barsDish(kinds[entry], dishes[entry], dish, edicts);
        }

        /** The first of the entries ahead of one that bars a dish, or -1. */
        int firstBarring(int dish, int ahead) {
            for (int e = 0; e < ahead && e < entries; e++) {
                if (isBarredBy(e, dish)) {
                    return e;
                }
            }
            return -1;
        }

        int firstBreach() {
            for (int e = 0; e < entries; e++) {
                if (kinds[e] != GUEST && firstBarring(dishes[e], e) >= 0) {
                    return e;
                }
            }
            return -1;
        }

        int hadNear(int dish, int n) {
            int sum = 0;
            for (int e = 0; e < entries; e++) {
                if (kinds[e] != GUEST && nearness(dishes[e], dish) <= n) {
                    sum++;
                }
            }
            return sum;
        }

        int guests() {
            int sum = 0;
            for (int e = 0; e < entries; e++) {
                if (kinds[e] == GUEST) {
                    sum++;
                }
            }
            return sum;
        }

        int allStores() {
            int sum = 0;
            for (int thing = 0; thing < THINGS; thing++) {
                sum += stores[thing];
            }
            return sum;
        }
    }

    /** The set of the things of which there is some. */
    private static int inStore(int[] stores) {
        int set = 0;
        for (int thing = 0; thing < stores.length; thing++) {
            if (stores[thing] > 0) {
                set |= 1 << thing;
            }
        }
        return set;
    }

    private static void takeFrom(int[] stores, int dish) {
        for (int thing = 0; thing < stores.length; thing++) {
            if (hasBit(setOf(dish), thing)) {
                stores[thing]--;
            }
        }
    }

    /** The dishes that entries bar: for each set, its manners that are barred. */
    private static final class Barred {
        final int[] once = new int[ALL_SETS];
        final int[] again = new int[ALL_SETS];

        void barAll(Bureau bureau, int edicts) {
            Arrays.fill(once, 0);
            Arrays.fill(again, 0);
            for (int e = 0; e < bureau.entries; e++) {
                bar(bureau.kinds[e], bureau.dishes[e], edicts);
            }
        }

        void bar(int kind, int dish, int edicts) {
            int manners = mannersBarred(kind, mannerOf(dish), edicts);
            int own = setOf(dish);
            if (!barsParts(kind)) {
                barIn(own, manners);
                return;
            }
            for (int i = 0; i < SETS.length; i++) {
                if (isPartEitherWay(own, SETS[i])) {
                    barIn(SETS[i], manners);
                }
            }
        }

        private void barIn(int set, int manners) {
            again[set] |= once[set] & manners;
            once[set] |= manners;
        }

        int unbarred() {
            return DISHES - countOf(once);
        }

        /** How many dishes one of the entries bars and no other one does. */
        int barredAloneBy(int kind, int dish, int edicts) {
            int manners = mannersBarred(kind, mannerOf(dish), edicts);
            int sum = 0;
            for (int i = 0; i < SETS.length; i++) {
                int set = SETS[i];
                if (barsSet(kind, setOf(dish), set)) {
                    sum += Integer.bitCount(manners & ~again[set]);
                }
            }
            return sum;
        }
    }

    /** A kitchen in which meals are tried out, whatever the day and the book's room. */
    private static final class Kitchen {
        final int[] stock = new int[THINGS];
        final Barred barred = new Barred();
        private int edicts = 0;
        private final int[] likedSets = new int[ALL_SETS];
        private final int[] likedManners = new int[MANNERS];
        /** All manners, the most liked first, of several the least first. */
        private final int[] favourites = new int[MANNERS];
        private final int[] everything = new int[ALL_SETS];

        Kitchen() {
            Arrays.fill(everything, ALL_MANNERS);
        }

        void begin(Bureau bureau) {
            System.arraycopy(bureau.stores, 0, stock, 0, THINGS);
            edicts = bureau.edicts;
            barred.barAll(bureau, edicts);
            weighSets(bureau.likedThings);
            weighManners(bureau);
            rankManners();
        }

        private void weighSets(int[] likedThings) {
            for (int i = 0; i < SETS.length; i++) {
                int sum = 0;
                for (int thing = 0; thing < likedThings.length; thing++) {
                    if (hasBit(SETS[i], thing)) {
                        sum += likedThings[thing];
                    }
                }
                likedSets[SETS[i]] = sum;
            }
        }

        private void weighManners(Bureau bureau) {
            for (int m = 0; m < MANNERS; m++) {
                likedManners[m] = bureau.likedWays[wayOf(m)] + bureau.likedSauces[sauceOf(m)];
            }
        }

        private void rankManners() {
            for (int m = 0; m < MANNERS; m++) {
                int place = m;
                while (place > 0 && likedManners[favourites[place - 1]] < likedManners[m]) {
                    favourites[place] = favourites[place - 1];
                    place--;
                }
                favourites[place] = m;
            }
        }

        /** The manners in which dishes of a set are new, if they can be; else none. */
        int servableManners(int set, int inStock) {
            return (set & ~inStock) == 0 ? ALL_MANNERS & ~barred.once[set] : 0;
        }

        int possible() {
            int inStock = inStore(stock);
            int sets = 0;
            for (int i = 0; i < SETS.length; i++) {
                if ((SETS[i] & ~inStock) == 0) {
                    sets++;
                }
            }
            return sets * MANNERS;
        }

        int servable() {
            int inStock = inStore(stock);
            int sum = 0;
            for (int i = 0; i < SETS.length; i++) {
                sum += Integer.bitCount(servableManners(SETS[i], inStock));
            }
            return sum;
        }

        /** The least dish from a number on that can be and is new, or -1. */
        int firstFrom(int number) {
            int inStock = inStore(stock);
            for (int i = 0; i < SETS.length; i++) {
                int manners = servableManners(SETS[i], inStock);
                int first = MANNERS * SETS[i];
                for (int m = 0; m < MANNERS; m++) {
                    if (first + m >= number && hasBit(manners, m)) {
                        return first + m;
                    }
                }
            }
            return -1;
        }

        int favourite() {
            return favouriteAmong(everything);
        }

        /** The most liked dish that can be and is new, of those told for each set, or -1. */
        int favouriteAmong(int[] mannersBySet) {
            int inStock = inStore(stock);
            int likedMost = likedManners[favourites[0]];
            int best = -1;
            int most = 0;
            for (int i = 0; i < SETS.length; i++) {
                int set = SETS[i];
                // Lasting kitchens ask this often: a set that can't win isn't looked into.
                if (best >= 0 && likedSets[set] + likedMost <= most) {
                    continue;
                }
                int manner = favouriteManner(servableManners(set, inStock) & mannersBySet[set]);
                if (manner >= 0 && (best < 0 || likedSets[set] + likedManners[manner] > most)) {
                    most = likedSets[set] + likedManners[manner];
                    best = MANNERS * set + manner;
                }
            }
            return best;
        }

        private int favouriteManner(int manners) {
            if (manners == 0) {
                return -1;
            }
            for (int i = 0; i < MANNERS; i++) {
                if (hasBit(manners, favourites[i])) {
                    return favourites[i];
                }
            }
            return -1;
        }

        boolean canCook(int kind, int dish) {
            int set = setOf(dish);
            int inStock = inStore(stock);
            if (kind == GUEST) {
                return (set & ~inStock) == 0;
            }
            return hasBit(servableManners(set, inStock), mannerOf(dish));
        }

        void cook(int kind, int dish) {
            takeFrom(stock, dish);
            barred.bar(kind, dish, edicts);
        }

        /** The dish that was cooked, or -1 if there is none. */
        int cookFavourite(int kind) {
            int dish = favourite();
            if (dish >= 0) {
                cook(kind, dish);
            }
            return dish;
        }

        int mealsLeft(int kind) {
            for (int meal = 0; meal < MOST_LASTING; meal++) {
                if (cookFavourite(kind) < 0) {
                    return meal;
                }
            }
            return MOST_LASTING;
        }
    }

    /** The dishes that cooks come to from one: for each set, its manners that are reached. */
    private static final class Paths {
        final int[] reached = new int[ALL_SETS];
        private final int[] before = new int[ALL_SETS];

        void reach(int dish, int n, Kitchen kitchen) {
            setOut(dish);
            boolean goesOn = true;
            for (int step = 0; step < n && goesOn; step++) {
                goesOn = goFurther(kitchen);
            }
        }

        /** How many steps it takes, or -1 if there is no way. */
        int stepsBetween(int from, int to, Kitchen kitchen) {
            setOut(from);
            for (int n = 0; n <= DISHES; n++) {
                if (hasBit(reached[setOf(to)], mannerOf(to))) {
                    return n;
                }
                if (!goFurther(kitchen)) {
                    return -1;
                }
            }
            return -1;
        }

        private void setOut(int dish) {
            Arrays.fill(reached, 0);
            reached[setOf(dish)] = 1 << mannerOf(dish);
        }

        /** One step more from all that is reached: whether there is anything more now. */
        private boolean goFurther(Kitchen kitchen) {
            System.arraycopy(reached, 0, before, 0, ALL_SETS);
            int inStock = inStore(kitchen.stock);
            boolean more = false;
            for (int i = 0; i < SETS.length; i++) {
                int set = SETS[i];
                int fresh = kitchen.servableManners(set, inStock) & ~before[set];
                if (fresh != 0) {
                    reached[set] |= fresh & (otherManners(before[set]) | fromOtherSets(set));
                    more = more || reached[set] != before[set];
                }
            }
            return more;
        }

        private int fromOtherSets(int set) {
            int manners = 0;
            for (int thing = 0; thing < THINGS; thing++) {
                manners |= before[set ^ (1 << thing)];
            }
            return manners;
        }

        /** The manners with the way or the sauce of one of those given. */
        private static int otherManners(int manners) {
            int sauces = 0;
            int all = 0;
            for (int way = 0; way < WAYS; way++) {
                int ofWay = (manners >> (SAUCES * way)) & ALL_SAUCES;
                sauces |= ofWay;
                if (ofWay != 0) {
                    all |= ALL_SAUCES << (SAUCES * way);
                }
            }
            return all | (sauces * ONE_SAUCE_IN_ALL_WAYS);
        }
    }

    /** The tape, and its text as it is understood token by token. */
    private static final class Tape {
        private static final int END = 0;
        private static final int WORD = 1;
        private static final int NUMBER = 2;
        private static final int SIGN = 3;
        private static final int BLANK = 4;
        private static final int OTHER = 5;
        /** Above every number that may be. */
        private static final int TOO_MUCH = 10000;

        int length = 0;
        private final int[] bytes = new int[MOST_BYTES];
        private int token = END;
        private int start = 0;
        private int end = 0;
        private int value = 0;

        void put(int b) {
            if (length < MOST_BYTES) {
                bytes[length] = b;
                length++;
            }
        }

        /** How many items there were, or -1 less the place of the fault. */
        int tellTo(Bureau bureau) {
            end = 0;
            for (int items = 1; items <= MOST_BYTES; items++) {
                advance();
                if (!takeItem(bureau)) {
                    break;
                }
                if (token == END) {
                    return items;
                }
                if (token != SIGN) {
                    break;
                }
            }
            // What can't stand was not taken, so it is the token that stands there still.
            return -1 - start;
        }

        private boolean takeItem(Bureau bureau) {
            int kind = kindNamed();
            if (kind >= 0) {
                return takeEntry(bureau, kind);
            }
            if (takeWord("store")) {
                return takeStore(bureau);
            }
            if (takeWord("likes")) {
                return takeLiking(bureau, 1);
            }
            if (takeWord("loathes")) {
                return takeLiking(bureau, -1);
            }
            if (takeWord("edict")) {
                return takeEdict(bureau);
            }
            return takeWord("day") && takeDay(bureau);
        }

        private int kindNamed() {
            if (isWord("entry")) {
                return ENTRY;
            }
            if (isWord("parted")) {
                return PARTED;
            }
            if (isWord("guest")) {
                return GUEST;
            }
            if (isWord("named")) {
                return NAMED;
            }
            if (isWord("feast")) {
                return FEAST;
            }
            return isWord("secret") ? SECRET : -1;
        }

        private boolean takeEntry(Bureau bureau, int kind) {
            if (bureau.isFull()) {
                return false;
            }
            advance();
            int set = takeThings();
            if (set == 0 || !takeWord("way")) {
                return false;
            }
            int way = takeNumber(WAYS - 1);
            if (way < 0 || !takeWord("sauce")) {
                return false;
            }
            int sauce = takeNumber(SAUCES - 1);
            if (sauce < 0) {
                return false;
            }
            bureau.note(kind, dishNumber(set, way, sauce));
            return true;
        }

        /** A set of one to three things, or 0 with a fault. */
        private int takeThings() {
            int set = 0;
            for (int n = 0; n < 3; n++) {
                if (n > 0 && token != NUMBER) {
                    return set;
                }
                if (token != NUMBER || value >= THINGS || hasBit(set, value)) {
                    return 0;
                }
                set |= 1 << value;
                advance();
            }
            return set;
        }

        private boolean takeStore(Bureau bureau) {
            int thing = takeNumber(THINGS - 1);
            int v = thing < 0 ? -1 : takeNumber(MOST_STORE);
            if (v < 0) {
                return false;
            }
            bureau.stores[thing] = v;
            return true;
        }

        private boolean takeLiking(Bureau bureau, int sign) {
            int what = whatNamed();
            if (what < 0) {
                return false;
            }
            advance();
            int[] liked = bureau.likedOf(what);
            int which = takeNumber(liked.length - 1);
            int v = which < 0 ? -1 : takeNumber(MOST_LIKED);
            if (v < 0) {
                return false;
            }
            liked[which] = sign * v;
            return true;
        }

        private int whatNamed() {
            if (isWord("thing")) {
                return 0;
            }
            if (isWord("way")) {
                return 1;
            }
            return isWord("sauce") ? 2 : -1;
        }

        private boolean takeEdict(Bureau bureau) {
            boolean isOfSauces = takeWord("sauces");
            if (!isOfSauces && !takeWord("ways")) {
                return false;
            }
            boolean isOn = takeWord("on");
            if (!isOn && !takeWord("off")) {
                return false;
            }
            bureau.decree(isOfSauces ? 0 : 1, isOn);
            return true;
        }

        private boolean takeDay(Bureau bureau) {
            int day = takeNumber(LAST_DAY);
            if (day < 0) {
                return false;
            }
            bureau.day = day;
            return true;
        }

        private boolean takeWord(String word) {
            boolean is = isWord(word);
            if (is) {
                advance();
            }
            return is;
        }

        /** A number of at most so much, or -1 with a fault. */
        private int takeNumber(int most) {
            if (token != NUMBER || value > most) {
                return -1;
            }
            int number = value;
            advance();
            return number;
        }

        private boolean isWord(String word) {
            if (token != WORD || end - start != word.length() || end > MOST_BYTES) {
                return false;
            }
            for (int i = 0; i < word.length(); i++) {
                if (bytes[start + i] != word.charAt(i)) {
                    return false;
                }
            }
            return true;
        }

        private void advance() {
            start = end;
            while (start < length && typeAt(start) == BLANK) {
                start++;
            }
            token = typeAt(start);
            end = Math.min(length, start + 1);
            while (end < length && (token == WORD || token == NUMBER) && typeAt(end) == token) {
                end++;
            }
            value = token == NUMBER ? valueOfDigits() : 0;
        }

        private int valueOfDigits() {
            int sum = 0;
            for (int i = start; i < end && i < MOST_BYTES; i++) {
                int longer = 10 * sum + bytes[i] - '0';
                sum = longer < TOO_MUCH ? longer : TOO_MUCH;
            }
            return sum;
        }

        /** The type of the token that a byte is part of. */
        private int typeAt(int i) {
            if (i < 0 || i >= length || i >= MOST_BYTES) {
                return END;
            }
            int b = bytes[i];
            if (b >= 'a' && b <= 'z') {
                return WORD;
            }
            if (b >= '0' && b <= '9') {
                return NUMBER;
            }
            if (b == ';') {
                return SIGN;
            }
            return b == ' ' ? BLANK : OTHER;
        }
    }

    /** A row of numbers, all of as many bits; with 0 bits it is missing. */
    private static final class Sheet {
        int bits = 0;
        int length = 0;
        final long[] numbers = new long[MOST_NUMBERS];

        void lay(int newBits, int n) {
            bits = newBits;
            length = newBits == 0 ? 0 : n;
            Arrays.fill(numbers, 0L);
        }

        boolean isMissing() {
            return bits == 0;
        }

        boolean hasPart(int from, int n) {
            return from >= 0 && n >= 0 && n <= length - from;
        }

        void put(int i, long v) {
            if (isBelow(i, length)) {
                numbers[i] = cut(v);
            }
        }

        private long cut(long v) {
            if (bits == 8) {
                return (byte) v;
            }
            return bits == 16 ? (short) v : v;
        }
    }
}
