/** One method a promise of the document: ordinary inputs, the edges it names, wrong inputs. */
public final class PromisesTest {
    private static final int BEYOND = -1000000001;
    private static final int FULL = -1000000002;
    private static final int KIND = -1000000003;
    private static final int NONE = -1000000004;
    private static final int STATE = -1000000005;
    private static final int MISSING = -1000000006;
    private static final int SIZE = -1000000007;
    private static final int MIN = Integer.MIN_VALUE;
    private static final int MAX = Integer.MAX_VALUE;

    private static int wrong = 0;

    private static void due(String what, long want, long got) {
        if (want != got) {
            wrong++;
            System.out.println(what + " answered " + got + ", due is " + want);
        }
    }

    private static void feedText(NewDishes x, String text) {
        for (int i = 0; i < text.length(); i++) {
            due("feed of " + text, i + 1, x.feed(text.charAt(i), 1));
        }
    }

    private static int book(NewDishes x, String text) {
        feedText(x, text);
        return x.book();
    }

    private static void emptyStores(NewDishes x) {
        for (int thing = 0; thing < 8; thing++) {
            x.store(thing, 0);
        }
    }

    private static void fill(NewDishes x, int kind, int dish) {
        for (int e = 0; e < 30; e++) {
            due("fill", e, x.enter(kind, dish));
        }
    }

    public static void main(String[] args) {
        newObject();
        stores();
        likes();
        edicts();
        dishes();
        ofDishes();
        nears();
        manyAndNext();
        entries();
        barring();
        breaches();
        keenests();
        wouldBes();
        bests();
        serving();
        mealsGo();
        onAndLasts();
        buying();
        paths();
        nows();
        feeding();
        textsThatStand();
        textFaults();
        textOfFullBook();
        sheets();
        copies();
        laysMenuRead();
        images();
        countsAndStatus();
        System.out.println(wrong == 0 ? "all promises hold" : wrong + " answers are not as due");
        if (wrong != 0) {
            System.exit(1);
        }
    }

    /** Promise 1. */
    private static void newObject() {
        NewDishes x = new NewDishes();
        due("1 day", 0, x.now(0));
        due("1 entries", 0, x.now(1));
        due("1 guests", 0, x.now(2));
        due("1 stores", 40, x.now(3));
        due("1 tape", 0, x.count(0));
        due("1 edicts", 2, x.count(1));
        due("1 liking", 0, x.of(20 * 224 + 19, 3));
        due("1 no image", 0, x.tear());
        due("1 undo", NONE, x.undo());
        for (int s = 0; s < 4; s++) {
            due("1 sheet " + s, MISSING, x.lays(s));
        }
        due("1 status", 5, x.status(-1));
        NewDishes fresh = new NewDishes();
        due("1 fresh status", 0, fresh.status(-1));
    }

    /** Promises 2 and 3. */
    private static void stores() {
        NewDishes x = new NewDishes();
        due("2 store", 5, x.store(0, 99));
        due("2 store again", 99, x.store(0, 0));
        due("2 store last", 5, x.store(7, 1));
        due("3 storeOf 0", 0, x.storeOf(0));
        due("3 storeOf 7", 1, x.storeOf(7));
        int[][] bad = {{-1, 0}, {8, 0}, {0, -1}, {0, 100}, {MIN, 0}, {MAX, 0}, {0, MIN}, {0, MAX}};
        for (int[] b : bad) {
            due("2 beyond", BEYOND, x.store(b[0], b[1]));
        }
        due("2 unchanged", 0, x.storeOf(0));
        for (int thing : new int[] {-1, 8, MIN, MAX}) {
            due("3 beyond", BEYOND, x.storeOf(thing));
        }
    }

    /** Promise 4. */
    private static void likes() {
        NewDishes x = new NewDishes();
        due("4 thing", 0, x.like(0, 7, 9));
        due("4 thing again", 9, x.like(0, 7, -9));
        due("4 way", 0, x.like(1, 4, 3));
        due("4 sauce", 0, x.like(2, 3, 2));
        due("4 liking", -9 + 3 + 2, x.of(x.dish(128, 4, 3), 3));
        int[][] bad = {{-1, 0, 0}, {3, 0, 0}, {0, 8, 0}, {0, -1, 0}, {1, 5, 0}, {1, -1, 0}, {2, 4, 0},
            {2, -1, 0}, {0, 0, 10}, {0, 0, -10}, {1, 0, MAX}, {2, 0, MIN}, {MIN, 0, 0}, {0, MAX, 0}};
        for (int[] b : bad) {
            due("4 beyond " + b[0] + " " + b[1] + " " + b[2], BEYOND, x.like(b[0], b[1], b[2]));
        }
        due("4 unchanged", -4, x.of(x.dish(128, 4, 3), 3));
    }

    /** Promise 5. */
    private static void edicts() {
        NewDishes x = new NewDishes();
        due("5 in force already", 0, x.edict(0, true));
        due("5 off", 1, x.edict(1, false));
        due("5 count", 1, x.count(1));
        due("5 off again", 0, x.edict(1, false));
        due("5 on", 1, x.edict(1, true));
        due("5 count", 2, x.count(1));
        for (int which : new int[] {-1, 2, MIN, MAX, 32}) {
            due("5 beyond", BEYOND, x.edict(which, false));
        }
        due("5 unchanged", 2, x.count(1));
    }

    /** Promise 6. */
    private static void dishes() {
        NewDishes x = new NewDishes();
        due("6 first", 20, x.dish(1, 0, 0));
        due("6 last", 4499, x.dish(224, 4, 3));
        due("6 middle", 7 * 20 + 2 * 4 + 1, x.dish(7, 2, 1));
        int[][] bad = {{0, 0, 0}, {15, 0, 0}, {255, 0, 0}, {256, 0, 0}, {-1, 0, 0}, {MIN, 0, 0}, {MAX, 0, 0},
            {1, -1, 0}, {1, 5, 0}, {1, 0, -1}, {1, 0, 4}, {1, MAX, MAX}, {225, 0, 0}};
        for (int[] b : bad) {
            due("6 beyond " + b[0], BEYOND, x.dish(b[0], b[1], b[2]));
        }
        int count = 0;
        for (int set = -5; set < 300; set++) {
            if (x.dish(set, 0, 0) >= 0) {
                count++;
            }
        }
        due("6 sets", 92, count);
    }

    /** Promise 7. */
    private static void ofDishes() {
        NewDishes x = new NewDishes();
        int dish = x.dish(0b1010001, 3, 2);
        x.like(0, 0, 4);
        x.like(0, 1, 9);
        x.like(0, 4, -7);
        x.like(0, 6, 2);
        x.like(1, 3, -5);
        x.like(2, 2, -1);
        due("7 set", 0b1010001, x.of(dish, 0));
        due("7 way", 3, x.of(dish, 1));
        due("7 sauce", 2, x.of(dish, 2));
        due("7 liking", 4 - 7 + 2 - 5 - 1, x.of(dish, 3));
        due("7 can be", 1, x.of(dish, 4));
        due("7 new", 1, x.of(dish, 5));
        x.store(6, 0);
        due("7 can't be", 0, x.of(dish, 4));
        due("7 new still", 1, x.of(dish, 5));
        x.enter(0, dish);
        due("7 not new", 0, x.of(dish, 5));
        for (int what : new int[] {-1, 6, MIN, MAX}) {
            due("7 beyond what", BEYOND, x.of(dish, what));
        }
        for (int number : new int[] {-1, 0, 19, 4500, 15 * 20, MIN, MAX, -20, 256 * 20}) {
            for (int what = 0; what < 6; what++) {
                due("7 beyond dish", BEYOND, x.of(number, what));
            }
        }
    }

    /** Promises 8 and 9. */
    private static void nears() {
        NewDishes x = new NewDishes();
        int one = x.dish(0b111, 0, 0);
        int other = x.dish(0b111000, 1, 1);
        due("8 itself", 0, x.near(one, one));
        due("8 farthest", 8, x.near(one, other));
        due("8 way", 1, x.near(one, one + 4));
        due("8 sauce", 1, x.near(one, one + 3));
        due("8 part", 2, x.near(one, x.dish(1, 0, 0)));
        for (int number : new int[] {-1, 19, 4500, MIN, MAX, 300}) {
            due("8 beyond", BEYOND, x.near(one, number));
            due("8 beyond", BEYOND, x.near(number, one));
            due("9 beyond", BEYOND, x.nearHad(number, 0));
        }
        x.enter(0, one);
        x.enter(2, one);
        x.enter(5, one + 1);
        x.enter(4, other);
        due("9 the same", 1, x.nearHad(one, 0));
        due("9 one off", 2, x.nearHad(one, 1));
        due("9 seven", 2, x.nearHad(one, 7));
        due("9 all but guests", 3, x.nearHad(one, 8));
        for (int n : new int[] {-1, 9, MIN, MAX}) {
            due("9 beyond n", BEYOND, x.nearHad(one, n));
        }
    }

    /** Promises 10 and 11. */
    private static void manyAndNext() {
        NewDishes x = new NewDishes();
        x.store(0, 0);
        due("10 can be", (92 - 29) * 20, x.many(0));
        due("10 all are new", 1840, x.many(1));
        NewDishes quail = new NewDishes();
        emptyStores(quail);
        quail.store(0, 1);
        due("10 one thing", 20, quail.many(0));
        due("10 one thing", 20, quail.many(2));
        quail.enter(0, 20);
        due("10 one thing", 19, quail.many(2));
        due("10 quail barred", 1, quail.entryOf(0, 3));
        due("11 quail", 21, quail.next(0));
        x.enter(4, x.dish(2, 0, 0));
        due("10 new", 1840 - 580, x.many(1));
        // Sets without quail: 7 + 21 + 35; of these with rice 1 + 6 + 15.
        due("10 both", (63 - 22) * 20, x.many(2));
        due("10 neither", (29 - 22) * 20, x.many(3));
        for (int what : new int[] {-1, 4, MIN, MAX}) {
            due("10 beyond", BEYOND, x.many(what));
        }
        due("11 least", 80, x.next(0));
        due("11 itself", 81, x.next(81));
        due("11 behind", 8 * 20, x.next(100));
        due("11 last", 4499, x.next(4499));
        due("11 none", NONE, x.next(4500));
        due("11 none", NONE, x.next(MAX));
        due("11 beyond", BEYOND, x.next(-1));
        due("11 beyond", BEYOND, x.next(MIN));
        emptyStores(x);
        due("11 nothing", NONE, x.next(0));
    }

    /** Promises 12 to 16. */
    private static void entries() {
        NewDishes x = new NewDishes();
        due("16 none", NONE, x.strike());
        int[] dishes = {66, 45, 100, 67, 84, 260};
        for (int kind = 0; kind < 6; kind++) {
            due("12 number", kind, x.enter(kind, dishes[kind]));
        }
        due("12 day stays", 0, x.now(0));
        due("12 stores stay", 40, x.now(3));
        due("12 book's day", 1, book(x, "day 81"));
        due("12 not new", 6, x.enter(0, 66));
        due("13 kind", 4, x.entryOf(4, 0));
        due("13 dish", 260, x.entryOf(5, 1));
        due("13 day 0", 0, x.entryOf(5, 2));
        due("13 day", 81, x.entryOf(6, 2));
        int[] barred = {1, 29, 0, 1, 580, 4};
        for (int kind = 0; kind < 6; kind++) {
            due("13 bars " + kind, barred[kind], x.entryOf(kind, 3));
        }
        for (int bad : new int[] {-1, 7, MIN, MAX}) {
            due("13 beyond entry", BEYOND, x.entryOf(bad, 0));
            due("13 beyond what", BEYOND, x.entryOf(0, bad == 7 ? 4 : bad));
            due("14 beyond entry", BEYOND, x.turn(bad, 0));
            due("14 beyond kind", BEYOND, x.turn(0, bad == 7 ? 6 : bad));
            due("15 beyond entry", BEYOND, x.as(bad, 0));
            due("15 beyond kind", BEYOND, x.as(0, bad == 7 ? 6 : bad));
            due("12 beyond kind", BEYOND, x.enter(bad == 7 ? 6 : bad, 66));
            due("12 beyond dish", BEYOND, x.enter(0, bad));
        }
        boolean[][] is = {
            {true, false, false, false, false, false},
            {true, true, false, false, false, false},
            {true, false, true, false, false, false},
            {true, false, false, true, false, false},
            {true, true, false, false, true, false},
            {true, false, false, true, false, true}};
        for (int e = 0; e < 6; e++) {
            for (int kind = 0; kind < 6; kind++) {
                due("15 " + e + " as " + kind, is[e][kind] ? dishes[e] : KIND, x.as(e, kind));
            }
        }
        due("14 turn", 0, x.turn(6, 5));
        due("14 turn to the same", 5, x.turn(6, 5));
        due("14 kind", 5, x.entryOf(6, 0));
        due("14 bars", 4, x.entryOf(6, 3));
        due("16 strike", 66, x.strike());
        due("16 gone", BEYOND, x.entryOf(6, 0));
        due("16 entries", 6, x.now(1));
        NewDishes full = new NewDishes();
        fill(full, 2, 20);
        due("12 full", FULL, full.enter(0, 20));
        due("12 beyond ahead of full", BEYOND, full.enter(0, 19));
        due("12 full still", 30, full.now(1));
        full.strike();
        due("12 room", 29, full.enter(0, 20));
    }

    /** Promises 17 and 18. */
    private static void barring() {
        int set = 0b11;
        int part = 0b1;
        int whole = 0b111;
        int other = 0b101;
        // For each kind: the same set, a part, a whole, one that only meets it.
        checkBars(0, true, true, new int[][] {{1, 0, 0, 0}, {0, 0, 0, 0}}, set, part, whole, other);
        checkBars(0, true, false, new int[][] {{1, 1, 0, 0}, {0, 0, 0, 0}}, set, part, whole, other);
        checkBars(0, false, true, new int[][] {{1, 0, 1, 0}, {0, 0, 0, 0}}, set, part, whole, other);
        checkBars(0, false, false, new int[][] {{1, 1, 1, 1}, {0, 0, 0, 0}}, set, part, whole, other);
        checkBars(1, true, true, new int[][] {{1, 0, 0, 0}, {1, 0, 0, 0}}, set, part, whole, other);
        checkBars(1, true, false, new int[][] {{1, 1, 0, 0}, {1, 1, 0, 0}}, set, part, whole, other);
        checkBars(1, false, true, new int[][] {{1, 0, 1, 0}, {1, 0, 1, 0}}, set, part, whole, other);
        checkBars(1, false, false, new int[][] {{1, 1, 1, 1}, {1, 1, 1, 1}}, set, part, whole, other);
        for (int e = 0; e < 4; e++) {
            boolean sauces = (e & 1) != 0;
            boolean ways = (e & 2) != 0;
            checkBars(2, sauces, ways, new int[][] {{0, 0, 0, 0}, {0, 0, 0, 0}}, set, part, whole, other);
            checkBars(3, sauces, ways, new int[][] {{1, 0, 0, 0}, {0, 0, 0, 0}}, set, part, whole, other);
            checkBars(4, sauces, ways, new int[][] {{1, 1, 1, 1}, {1, 1, 1, 1}}, set, part, whole, other);
            checkBars(5, sauces, ways, new int[][] {{1, 0, 1, 0}, {0, 0, 0, 0}}, set, part, whole, other);
        }
        NewDishes x = new NewDishes();
        x.enter(2, 60);
        x.enter(3, 60);
        x.enter(0, 60);
        due("18 first", 1, x.by(60));
        due("18 none", NONE, x.by(61));
        for (int bad : new int[] {-1, 3, MIN, MAX}) {
            due("17 beyond entry", BEYOND, x.bars(bad, 60));
            due("17 beyond dish", BEYOND, x.bars(0, bad));
            due("18 beyond", BEYOND, x.by(bad));
        }
    }

    /** want: for the same set, then for parts: same manner, other way, other sauce, both. */
    private static void checkBars(int kind, boolean sauces, boolean ways, int[][] want,
                                  int set, int part, int whole, int other) {
        NewDishes x = new NewDishes();
        x.edict(0, sauces);
        x.edict(1, ways);
        x.enter(kind, x.dish(set, 2, 1));
        for (int m = 0; m < 4; m++) {
            int way = (m & 1) == 0 ? 2 : 4;
            int sauce = (m & 2) == 0 ? 1 : 0;
            String what = "17 kind " + kind + " sauces " + sauces + " ways " + ways + " manner " + m;
            due(what + " same set", want[0][m], x.bars(0, x.dish(set, way, sauce)));
            due(what + " part", want[1][m], x.bars(0, x.dish(part, way, sauce)));
            due(what + " whole", want[1][m], x.bars(0, x.dish(whole, way, sauce)));
            due(what + " other", 0, x.bars(0, x.dish(other, way, sauce)));
        }
    }

    /** Promise 19. */
    private static void breaches() {
        NewDishes x = new NewDishes();
        due("19 empty", NONE, x.breach());
        x.enter(2, 60);
        x.enter(0, 60);
        due("19 a guest bars nothing", NONE, x.breach());
        x.enter(2, 60);
        due("19 a guest is none", NONE, x.breach());
        x.enter(3, 61);
        due("19 another sauce", NONE, x.breach());
        x.edict(0, false);
        due("19 by edict", 3, x.breach());
        x.edict(0, true);
        // What comes later bars nothing ahead of it.
        x.enter(4, 20);
        due("19 barred by a part of it only later", NONE, x.breach());
        x.enter(0, 20 * 9 + 3);
        due("19 by a feast", 5, x.breach());
        NewDishes two = new NewDishes();
        two.enter(0, 20);
        two.enter(0, 20);
        due("19 by the first", 1, two.breach());
    }

    /** Promise 20. */
    private static void keenests() {
        NewDishes x = new NewDishes();
        due("20 none", NONE, x.keenest());
        x.enter(2, 60);
        due("20 one of no use", 0, x.keenest());
        x.enter(0, 60);
        due("20 one", 1, x.keenest());
        NewDishes quail = new NewDishes();
        quail.enter(2, 40);
        quail.enter(3, 20);
        due("20 quail", 1, quail.keenest());
        x.enter(0, 60);
        due("20 two the same", 0, x.keenest());
        x.enter(5, 100);
        due("20 four", 3, x.keenest());
        x.enter(5, 200);
        due("20 of several the least", 3, x.keenest());
        x.enter(1, 320);
        due("20 parts", 5, x.keenest());
        x.enter(4, 320);
        due("20 feast over all", 6, x.keenest());
        x.turn(5, 4);
        due("20 two feasts", 3, x.keenest());
    }

    /** Promise 21. */
    private static void wouldBes() {
        NewDishes x = new NewDishes();
        due("21 empty", 0, x.wouldBe(0));
        x.enter(0, 60);
        due("21 sauces off", -3, x.wouldBe(0));
        due("21 ways off", -4, x.wouldBe(1));
        due("21 nothing changes", 2, x.count(1));
        x.edict(0, false);
        due("21 sauces on", 3, x.wouldBe(0));
        due("21 ways off too", -16, x.wouldBe(1));
        x.turn(0, 5);
        due("21 whatever edicts", 0, x.wouldBe(0));
        for (int bad : new int[] {-1, 2, MIN, MAX}) {
            due("21 beyond", BEYOND, x.wouldBe(bad));
        }
    }

    /** Promise 22. */
    private static void bests() {
        NewDishes x = new NewDishes();
        due("22 least", 20, x.best());
        x.like(0, 5, 2);
        due("22 thing", 32 * 20, x.best());
        x.like(0, 0, 1);
        due("22 two things", 33 * 20, x.best());
        x.like(1, 4, 3);
        x.like(2, 2, 1);
        due("22 all", 33 * 20 + 18, x.best());
        x.enter(0, 33 * 20 + 18);
        due("22 next best, of several the least", 35 * 20 + 18, x.best());
        x.store(5, 0);
        due("22 can't be", 1 * 20 + 18, x.best());
        for (int thing = 0; thing < 8; thing++) {
            x.like(0, thing, -9);
        }
        for (int way = 0; way < 5; way++) {
            x.like(1, way, -9);
        }
        due("22 below nothing", 20 + 2, x.best());
        emptyStores(x);
        due("22 none", NONE, x.best());
        // {1} is liked more than {0}, but its best manners are barred, so that both come to 3.
        NewDishes tie = new NewDishes();
        emptyStores(tie);
        tie.store(0, 1);
        tie.store(1, 1);
        tie.like(0, 0, 1);
        tie.like(0, 1, 3);
        tie.like(1, 0, 2);
        tie.edict(0, false);
        tie.enter(0, 40);
        for (int way = 0; way < 5; way++) {
            tie.enter(0, 60 + 4 * way);
        }
        due("22 liking of the one", 3, tie.of(20, 3));
        due("22 liking of the other", 3, tie.of(44, 3));
        due("22 of two sets the least", 20, tie.best());
    }

    /** Promise 23. */
    private static void serving() {
        NewDishes x = new NewDishes();
        int dish = x.dish(0b1011, 1, 1);
        due("23 entry", 0, x.serve(4, dish));
        due("23 kind", 4, x.entryOf(0, 0));
        due("23 on day", 0, x.entryOf(0, 2));
        due("23 day", 1, x.now(0));
        due("23 stores", 37, x.now(3));
        due("23 store 3", 4, x.storeOf(3));
        due("23 store 2", 5, x.storeOf(2));
        due("23 not new", STATE, x.serve(0, dish));
        due("23 a guest", 1, x.serve(2, dish));
        due("23 on day 1", 1, x.entryOf(1, 2));
        x.store(3, 0);
        due("23 can't be", STATE, x.serve(2, dish));
        due("23 can't be and new", STATE, x.serve(0, 8 * 20));
        due("23 beyond kind", BEYOND, x.serve(6, dish));
        due("23 beyond kind", BEYOND, x.serve(-1, dish));
        due("23 beyond dish", BEYOND, x.serve(0, 19));
        due("23 beyond dish", BEYOND, x.serve(0, MAX));
        due("23 unchanged", 2, x.now(0));
        book(x, "day 9998");
        due("23 last day", 2, x.serve(0, 64 * 20));
        due("23 day 9999", 9999, x.now(0));
        due("23 no day more", STATE, x.serve(2, 64 * 20));
        NewDishes full = new NewDishes();
        fill(full, 0, 20);
        due("23 state ahead of full", STATE, full.serve(0, 20));
        due("23 full", FULL, full.serve(0, 40));
        due("23 full guest", FULL, full.serve(2, 20));
        due("23 full day", 0, full.now(0));
        due("23 full stores", 40, full.now(3));
    }

    /** Promise 24. */
    private static void mealsGo() {
        NewDishes x = new NewDishes();
        due("24 three", 3, x.meals(0, 3));
        due("24 first", 20, x.entryOf(0, 1));
        due("24 third", 22, x.entryOf(2, 1));
        due("24 third day", 2, x.entryOf(2, 2));
        due("24 day", 3, x.now(0));
        due("24 stores", 37, x.now(3));
        due("24 guests", 2, x.meals(2, 2));
        due("24 same for guests", 23, x.entryOf(4, 1));
        due("24 till the book is full", 25, x.meals(0, 30));
        due("24 full", 0, x.meals(0, 1));
        int[][] bad = {{-1, 1}, {6, 1}, {0, 0}, {0, 31}, {0, -1}, {MIN, 1}, {0, MIN}, {0, MAX}, {MAX, 1}};
        for (int[] b : bad) {
            due("24 beyond", BEYOND, x.meals(b[0], b[1]));
        }
        NewDishes late = new NewDishes();
        book(late, "day 9990");
        due("24 too late", STATE, late.meals(0, 10));
        due("24 nothing changed", 0, late.now(1));
        due("24 late enough", 9, late.meals(0, 9));
        due("24 last day", 9999, late.now(0));
        NewDishes poor = new NewDishes();
        emptyStores(poor);
        poor.store(4, 2);
        due("24 till nothing is left", 2, poor.meals(0, 30));
        due("24 nothing left", 0, poor.meals(0, 30));
        due("24 day of the poor", 2, poor.now(0));
    }

    /** Promises 25 and 26. */
    private static void onAndLasts() {
        NewDishes x = new NewDishes();
        due("25 first", 20, x.on(0, 1));
        due("25 fifth", 24, x.on(0, 5));
        due("25 sixth", 40, x.on(0, 6));
        due("25 fifth for guests", 20, x.on(2, 5));
        due("25 second parted", 21, x.on(1, 2));
        due("25 second feast", 40, x.on(4, 2));
        due("25 eighth feast", 128 * 20, x.on(4, 8));
        due("25 ninth feast", NONE, x.on(4, 9));
        due("25 nothing changes", 40, x.now(3));
        due("26 entry", 40, x.lasts(0));
        due("26 feast", 8, x.lasts(4));
        due("26 secret: five ways", 40, x.lasts(5));
        for (int thing = 0; thing < 8; thing++) {
            x.store(thing, 99);
        }
        due("26 at most", 60, x.lasts(0));
        due("25 thirtieth", 49, x.on(0, 30));
        fill(x, 2, 20);
        book(x, "day 9999");
        due("26 whatever room and day", 60, x.lasts(0));
        due("25 whatever room and day", 49, x.on(0, 30));
        int[][] bad = {{-1, 1}, {6, 1}, {0, 0}, {0, 31}, {0, -1}, {MIN, 1}, {0, MIN}, {0, MAX}, {MAX, 1}};
        for (int[] b : bad) {
            due("25 beyond", BEYOND, x.on(b[0], b[1]));
        }
        for (int bad1 : new int[] {-1, 6, MIN, MAX}) {
            due("26 beyond", BEYOND, x.lasts(bad1));
            due("27 beyond", BEYOND, x.buy(bad1));
        }
        emptyStores(x);
        due("26 nothing", 0, x.lasts(0));
        due("25 none", NONE, x.on(0, 1));
    }

    /** Promise 27. */
    private static void buying() {
        NewDishes x = new NewDishes();
        due("27 of several the least", 0, x.buy(0));
        due("27 feasts take one of each", NONE, x.buy(4));
        due("27 nothing changes", 40, x.now(3));
        x.enter(4, 20);
        due("27 not what is barred", 1, x.buy(0));
        for (int thing = 0; thing < 8; thing++) {
            x.store(thing, 99);
        }
        due("27 it lasts already", NONE, x.buy(0));
        emptyStores(x);
        x.enter(4, 40);
        due("27 from nothing", 2, x.buy(3));
    }

    /** Promises 28 to 30. */
    private static void paths() {
        NewDishes x = new NewDishes();
        due("28 itself", 0, x.steps(20, 20));
        due("28 a sauce", 1, x.steps(20, 23));
        due("28 a way", 1, x.steps(20, 36));
        due("28 a thing comes", 1, x.steps(20, 60));
        due("28 a thing goes", 1, x.steps(60, 20));
        due("28 a thing for another", 2, x.steps(20, 40));
        due("28 all", 8, x.steps(7 * 20, 56 * 20 + 19));
        due("29 none", 1, x.within(20, 0));
        due("29 one", 1 + 3 + 4 + 7, x.within(20, 1));
        due("29 all", 1840, x.within(20, 12));
        due("30 itself", 20, x.walk(20, 1));
        x.enter(3, 20);
        due("28 from what is barred", 1, x.steps(20, 21));
        due("28 to what is barred", NONE, x.steps(21, 20));
        due("28 barred, to itself", 0, x.steps(20, 20));
        due("29 barred itself", 15, x.within(20, 1));
        due("30 not itself if barred", 21, x.walk(20, 1));
        x.like(0, 7, 5);
        x.like(1, 2, 1);
        due("30 thing", 129 * 20, x.walk(20, 1));
        due("30 two steps", 129 * 20 + 8, x.walk(20, 2));
        x.like(0, 0, -1);
        due("30 three steps", 128 * 20 + 8, x.walk(20, 3));
        emptyStores(x);
        due("28 nothing can be", NONE, x.steps(20, 21));
        due("29 itself alone", 1, x.within(20, 12));
        due("30 nothing", NONE, x.walk(20, 12));
        x.store(0, 1);
        x.store(1, 1);
        x.enter(4, 60);
        due("28 cut off", NONE, x.steps(21, 40));
        int[][] bad = {{19, 1}, {20, -1}, {20, 13}, {MAX, 1}, {MIN, 1}, {20, MAX}, {20, MIN}};
        for (int[] b : bad) {
            due("29 beyond", BEYOND, x.within(b[0], b[1]));
            due("30 beyond", BEYOND, x.walk(b[0], b[1]));
        }
        due("30 beyond 0", BEYOND, x.walk(20, 0));
        due("28 beyond", BEYOND, x.steps(19, 20));
        due("28 beyond", BEYOND, x.steps(20, 19));
        due("28 beyond", BEYOND, x.steps(MIN, MAX));
        roundabout();
    }

    /** A way that must go round barred dishes. */
    private static void roundabout() {
        NewDishes x = new NewDishes();
        emptyStores(x);
        x.store(0, 5);
        x.store(1, 5);
        x.edict(0, false);
        x.edict(1, false);
        x.enter(0, 60);
        due("28 no way past both", NONE, x.steps(20, 40));
        x.edict(1, true);
        // Raw {0, 1} is barred: another way, there, and the first way again.
        due("28 round", 4, x.steps(20, 40));
    }

    /** Promise 31. */
    private static void nows() {
        NewDishes x = new NewDishes();
        x.serve(2, 60);
        x.serve(0, 60);
        x.enter(2, 60);
        due("31 day", 2, x.now(0));
        due("31 entries", 3, x.now(1));
        due("31 guests", 2, x.now(2));
        due("31 stores", 36, x.now(3));
        x.strike();
        due("31 a guest struck out", 1, x.now(2));
        NewDishes full = new NewDishes();
        fill(full, 2, 20);
        due("31 all are guests", 30, full.now(2));
        for (int bad : new int[] {-1, 4, MIN, MAX}) {
            due("31 beyond", BEYOND, x.now(bad));
        }
    }

    /** Promises 32 and 33. */
    private static void feeding() {
        NewDishes x = new NewDishes();
        for (int bad : new int[] {-1, 0, 5, MIN, MAX}) {
            due("32 beyond", BEYOND, x.feed(0, bad));
        }
        for (int i = 1; i <= 29; i++) {
            due("32 four", 4 * i, x.feed(-1, 4));
        }
        due("32 three", 119, x.feed(7, 3));
        due("32 full", FULL, x.feed(7, 2));
        due("32 unchanged", 119, x.count(0));
        due("32 last", 120, x.feed(7, 1));
        due("32 full", FULL, x.feed(7, 1));
        due("32 beyond ahead of full", BEYOND, x.feed(7, 5));
        due("33 wipe", 120, x.wipe());
        due("33 again", 0, x.wipe());
        // The lowest bytes alone, the highest of these first: "day" behind an X, then "7" alone.
        due("32 day", 3, x.feed(('X' << 24) | ('d' << 16) | ('a' << 8) | 'y', 3));
        due("32 7", 4, x.feed(('1' << 8) | '7', 1));
        due("34 day 7", 1, x.book());
        due("34 day", 7, x.now(0));
    }

    /** Promise 34. */
    private static void textsThatStand() {
        NewDishes x = new NewDishes();
        due("34 entries", 6, book(x, "entry 0 way 0 sauce 0;parted1 2way4sauce3 ;  guest 7 6 5 way 2 sauce 1"
            + ";day 9;named 3 way 1 sauce 1;day 0010"));
        due("34 tape is empty", 0, x.count(0));
        due("34 kind", 2, x.entryOf(2, 0));
        due("34 dish", 20, x.entryOf(0, 1));
        due("34 dish", 6 * 20 + 19, x.entryOf(1, 1));
        due("34 dish", 224 * 20 + 9, x.entryOf(2, 1));
        due("34 day ahead", 0, x.entryOf(2, 2));
        due("34 day behind", 9, x.entryOf(3, 2));
        due("34 day", 10, x.now(0));
        due("34 stores stay", 40, x.now(3));
        due("34 feast and secret", 2, book(x, "feast 4 way 3 sauce 2;secret 4 way 3 sauce 2"));
        due("34 feast", 4, x.entryOf(4, 0));
        due("34 secret", 5, x.entryOf(5, 0));
        due("34 store", 2, book(x, " store 7 99 ; store 0 0 "));
        due("34 store 7", 99, x.storeOf(7));
        due("34 store 0", 0, x.storeOf(0));
        due("34 likes", 3, book(x, "likes thing 7 9;loathes way 4 8;likes sauce 3 0"));
        due("34 liked", 1, x.of(128 * 20 + 19, 3));
        due("34 loathes", 2, book(x, "loathes sauce 3 5;loathes thing 7 0"));
        due("34 loathed", -13, x.of(128 * 20 + 19, 3));
        due("34 edicts", 2, book(x, "edict sauces off;edict ways off"));
        due("34 none in force", 0, x.count(1));
        due("34 edict", 1, book(x, "edict ways on"));
        due("34 ways are asked", 0, x.bars(0, 24));
        due("34 sauces are not", 1, x.bars(0, 21));
        due("34 day", 1, book(x, "day 9999"));
        due("34 long number", 1, book(x, "day 00000000000000000000000012"));
        due("34 day", 12, x.now(0));
        due("34 day 0", 1, book(x, "day 0"));
        due("34 day", 0, x.now(0));
        due("34 thing 0", 1, book(x, "loathes thing 0 4"));
        due("34 loathed", -4, x.of(20, 3));
        due("34 most bytes", 18, book(x, "day 1;day 1;day 1;day 1;day 1;day 1;day 1;day 1;day 1;day 1;"
            + "day 1;day 1;day 1;day 1;day 1;day 1;day 123; edict sauces on"));
        due("34 edict at the end", 2, x.count(1));
        due("34 no finding", 0, x.status(-1));
    }

    private static void fault(int place, String text) {
        NewDishes x = new NewDishes();
        due("34 fault in " + text, -1 - place, book(x, text));
        due("34 tape after " + text, 0, x.count(0));
        due("34 entries after " + text, 0, x.now(1));
        due("34 day after " + text, 0, x.now(0));
        due("34 stores after " + text, 40, x.now(3));
        due("34 edicts after " + text, 2, x.count(1));
        due("34 status after " + text, 0, x.status(-1));
    }

    private static void textFaults() {
        fault(0, "");
        fault(3, "   ");
        fault(0, ";");
        fault(0, "7");
        fault(0, "entrys 1 way 0 sauce 0");
        fault(0, "Entry 1 way 0 sauce 0");
        fault(5, "entry");
        fault(7, "entry 1");
        fault(6, "entry way");
        fault(6, "entry 8 way 0 sauce 0");
        fault(8, "entry 1 1 way 0 sauce 0");
        fault(12, "entry 1 2 3 4 way 0 sauce 0");
        fault(8, "entry 1 ways 0 sauce 0");
        fault(12, "entry 1 way 5 sauce 0");
        fault(20, "entry 1 way 4 sauce 4");
        fault(19, "entry 1 way 4 sauce");
        fault(22, "entry 1 way 4 sauce 3 2");
        fault(22, "entry 1 way 4 sauce 3;");
        fault(24, "store 2 7;day 4;store 0 ");
        fault(8, "store 2 100");
        fault(6, "store 8 1");
        fault(6, "likes 1 2");
        fault(12, "likes thing 8 1");
        fault(10, "likes way 5 1");
        fault(12, "likes sauce 4 1");
        fault(14, "likes thing 7 10");
        fault(8, "loathes things 7 1");
        fault(6, "edict sauce on");
        fault(13, "edict sauces onn");
        fault(11, "edict ways 1");
        fault(4, "day 10000");
        fault(4, "day 99999999999999999999");
        fault(4, "day -1");
        fault(5, "day 1,2");
        fault(5, "day 1\tday 2");
        fault(6, "day 1;Xday 2");
        fault(5, "day 1" + (char) 200);
        fault(15, "edict ways off;stores 1 1");
        fault(4, "day day X");
        fault(0, "dayz 1");
        fault(6, "day 1 day 2");
        fault(0, "xay 1");
        // Each of these ends too early, and so does each with a sign that ends it.
        for (String text : new String[] {"entry", "entry 1", "entry 1 2 3", "entry 1 way", "entry 1 way 0",
            "entry 1 way 0 sauce", "store", "store 1", "likes", "likes thing", "likes thing 1", "loathes",
            "loathes sauce", "loathes sauce 0", "edict", "edict ways", "day"}) {
            fault(text.length(), text);
            fault(text.length() + 3, text + "   ");
            fault(text.length() + 1, text + " ;day 1");
            fault(text.length() + 1, text + " " + (char) 0);
        }
        fault(120, "day 1;day 1;day 1;day 1;day 1;day 1;day 1;day 1;day 1;day 1;"
            + "day 1;day 1;day 1;day 1;day 1;day 1;day 1;day 1;day 1;day 1;");
    }

    private static void textOfFullBook() {
        NewDishes x = new NewDishes();
        for (int e = 0; e < 29; e++) {
            x.enter(2, 20);
        }
        due("34 31st", -1 - 23, book(x, "entry 1 way 0 sauce 0; entry 1 way 0 sauce 0"));
        due("34 nothing came", 29, x.now(1));
        due("34 30th", 1, book(x, "entry 1 way 0 sauce 0"));
        due("34 31st", -1 - 7, book(x, "day 5; feast X"));
        due("34 others still", 1, book(x, "day 5"));
        due("34 entries", 30, x.now(1));
    }

    /** Promises 35 and 36. */
    private static void sheets() {
        NewDishes x = new NewDishes();
        for (int bad : new int[] {-1, 4, MIN, MAX}) {
            due("35 beyond sheet", BEYOND, x.sheet(bad, 8, -1));
            due("36 beyond sheet", BEYOND, x.write(bad, 0, 0));
        }
        for (int bits : new int[] {-8, 1, 7, 32, 128, MIN, MAX}) {
            due("35 beyond bits", BEYOND, x.sheet(0, bits, -1));
        }
        for (int bits : new int[] {0, 8, 16, 64}) {
            due("35 size", SIZE, x.sheet(0, bits, -1));
            due("35 size", SIZE, x.sheet(0, bits, MIN));
            due("35 beyond n", BEYOND, x.sheet(0, bits, 41));
            due("35 beyond n", BEYOND, x.sheet(0, bits, MAX));
            due("35 most", bits == 0 ? 0 : 40, x.sheet(0, bits, 40));
            due("35 least", 0, x.sheet(0, bits, 0));
        }
        due("36 missing", MISSING, x.write(3, -1, 0));
        x.sheet(3, 8, 2);
        due("36 beyond number", BEYOND, x.write(3, 2, 0));
        due("36 beyond number", BEYOND, x.write(3, -1, 0));
        due("36 was 0", 0, x.write(3, 1, 255 + 256));
        due("36 8 bits", -1, x.write(3, 1, 128));
        due("36 8 bits", -128, x.write(3, 1, -129));
        due("36 8 bits", 127, x.write(3, 1, 0));
        x.write(3, 1, 9);
        x.sheet(3, 16, 2);
        due("36 new", 0, x.write(3, 1, 65535));
        due("36 16 bits", -1, x.write(3, 1, 32767));
        due("36 16 bits", 32767, x.write(3, 1, 1L << 40 | 5));
        due("36 16 bits", 5, x.write(3, 1, 0));
        x.sheet(3, 64, 2);
        due("36 new", 0, x.write(3, 0, Long.MIN_VALUE));
        due("36 64 bits", Long.MIN_VALUE, x.write(3, 0, BEYOND));
        int before = x.status(-1);
        due("36 like a finding", BEYOND, x.write(3, 0, Long.MAX_VALUE));
        due("36 but none", before, x.status(-1));
        due("35 missing again", 0, x.sheet(3, 0, 7));
        due("36 missing again", MISSING, x.write(3, 0, 1));
    }

    /** Promise 37. */
    private static void copies() {
        NewDishes x = new NewDishes();
        x.sheet(0, 16, 5);
        for (int i = 0; i < 5; i++) {
            x.write(0, i, i + 1);
        }
        due("37 missing", MISSING, x.copy(0, 0, 1, 0, 1));
        due("37 missing", MISSING, x.copy(1, -1, 0, 0, 1));
        due("37 beyond ahead of missing", BEYOND, x.copy(1, 0, 4, 0, 1));
        due("37 beyond", BEYOND, x.copy(-1, 0, 1, 0, 1));
        x.sheet(1, 8, 5);
        due("37 kind", KIND, x.copy(0, -1, 1, 0, 1));
        x.sheet(1, 16, 3);
        due("37 copy", 3, x.copy(0, 2, 1, 0, 3));
        due("37 came", 5, x.write(1, 2, 5));
        due("37 none", 0, x.copy(0, 5, 1, 3, 0));
        int[][] bad = {{3, 0, 3}, {0, 1, 3}, {-1, 0, 1}, {0, -1, 1}, {0, 0, -1}, {6, 0, 0}, {0, 4, 0},
            {MAX, 0, 1}, {1, 0, MAX}, {0, MAX, MAX}, {MIN, 0, MIN}, {MAX, MAX, MAX}, {MIN, MIN, MIN}};
        for (int[] b : bad) {
            due("37 beyond " + b[0] + " " + b[1] + " " + b[2], BEYOND, x.copy(0, b[0], 1, b[1], b[2]));
        }
        due("37 forth", 4, x.copy(0, 0, 0, 1, 4));
        for (int i = 0; i < 5; i++) {
            due("37 as they were", Math.max(1, i), x.write(0, i, i + 1));
        }
        due("37 back", 4, x.copy(0, 1, 0, 0, 4));
        for (int i = 0; i < 5; i++) {
            due("37 as they were", Math.min(5, i + 2), x.write(0, i, 0));
        }
    }

    /** Promises 38 to 40. */
    private static void laysMenuRead() {
        NewDishes x = new NewDishes();
        for (int bad : new int[] {-1, 4, MIN, MAX}) {
            due("38 beyond", BEYOND, x.lays(bad));
            due("39 beyond", BEYOND, x.menu(bad, 0));
            due("40 beyond", BEYOND, x.read(bad, 0));
        }
        due("38 missing", MISSING, x.lays(0));
        due("39 missing ahead of kind", MISSING, x.menu(0, 6));
        due("40 missing ahead of kind", MISSING, x.read(0, 6));
        x.sheet(0, 64, 10);
        for (int kind : new int[] {-1, 6, MIN, MAX}) {
            due("39 beyond kind", BEYOND, x.menu(0, kind));
            due("40 beyond kind", BEYOND, x.read(0, kind));
        }
        long[] numbers = {99, 100, -1, 0, 1L << 32, Long.MIN_VALUE, 3, 4, 5, 6};
        for (int i = 0; i < numbers.length; i++) {
            x.write(0, i, numbers[i]);
        }
        due("38 came", 4, x.lays(0));
        int[] stores = {99, 5, 5, 0, 5, 5, 3, 4};
        for (int thing = 0; thing < 8; thing++) {
            due("38 store " + thing, stores[thing], x.storeOf(thing));
        }
        x.sheet(1, 8, 1);
        due("38 one number", 1, x.lays(1));
        due("38 its store", 0, x.storeOf(0));
        due("38 no store behind it", 5, x.storeOf(1));
        x.sheet(1, 8, 0);
        due("38 no number", 0, x.lays(1));
        menus();
        readers();
    }

    private static void menus() {
        NewDishes x = new NewDishes();
        emptyStores(x);
        x.store(0, 2);
        x.store(7, 1);
        x.sheet(1, 16, 5);
        x.write(1, 3, -7);
        due("39 three", 3, x.menu(1, 0));
        int[] want = {20, 21, 128 * 20, -7, 0};
        for (int i = 0; i < 5; i++) {
            due("39 number " + i, want[i], x.write(1, i, 0));
        }
        due("39 nothing changes", 3, x.now(3));
        due("39 for guests", 3, x.menu(1, 2));
        due("39 the same", 20, x.write(1, 1, 0));
        x.sheet(1, 8, 3);
        x.store(0, 0);
        due("39 8 bits", 1, x.menu(1, 0));
        due("39 the lowest bits", (byte) 2560, x.write(1, 0, 0));
        for (int thing = 0; thing < 8; thing++) {
            x.store(thing, 9);
        }
        fill(x, 2, 20);
        x.sheet(2, 64, 40);
        due("39 whatever room", 40, x.menu(2, 0));
        due("40 what a menu tells", 0, x.read(2, 0));
    }

    private static void readers() {
        NewDishes x = new NewDishes();
        x.sheet(0, 64, 0);
        due("40 empty", 0, x.read(0, 0));
        x.sheet(0, 64, 3);
        due("40 no dish", 1, x.read(0, 0));
        x.write(0, 0, 20);
        x.write(0, 1, 20);
        x.write(0, 2, 21);
        due("40 twice", 2, x.read(0, 0));
        due("40 twice for guests", 0, x.read(0, 2));
        x.write(0, 1, 24);
        due("40 all", 0, x.read(0, 0));
        due("40 feasts", 2, x.read(0, 4));
        due("40 nothing changes", 0, x.now(1));
        x.store(0, 2);
        due("40 till the store is empty", 3, x.read(0, 2));
        for (long v : new long[] {-1, 19, 4500, 300, (1L << 32) + 24, Long.MIN_VALUE, Long.MAX_VALUE}) {
            x.write(0, 1, v);
            due("40 no dish", 2, x.read(0, 2));
        }
        x.write(0, 0, 40);
        x.enter(0, 40);
        due("40 had", 1, x.read(0, 0));
        book(x, "day 9999");
        x.write(0, 0, 41);
        x.write(0, 1, 42);
        x.write(0, 2, 43);
        due("40 whatever day", 0, x.read(0, 0));
        x.write(0, 2, 4499);
        due("40 the last dish", 0, x.read(0, 0));
    }

    /** Promises 41 to 43. */
    private static void images() {
        NewDishes x = new NewDishes();
        due("43 nothing", 0, x.tear());
        due("42 none", NONE, x.undo());
        x.meals(0, 2);
        x.like(0, 0, 3);
        x.like(1, 1, 4);
        x.like(2, 2, 5);
        x.edict(0, false);
        due("41 image", 1, x.image());
        x.meals(1, 3);
        x.turn(0, 5);
        x.like(0, 0, 0);
        x.like(1, 1, 0);
        x.like(2, 2, 0);
        x.edict(0, true);
        x.edict(1, false);
        x.sheet(0, 8, 3);
        x.feed('d', 1);
        due("42 undo", 2, x.undo());
        due("42 day", 2, x.now(0));
        due("42 stores", 38, x.now(3));
        due("42 kind", 0, x.entryOf(0, 0));
        due("42 liked", 12, x.of(20 + 6, 3));
        due("42 edicts", 1, x.count(1));
        due("42 sauces are not asked", 1, x.bars(0, 23));
        due("42 the tape stays", 1, x.count(0));
        due("42 sheets stay", 0, x.write(0, 2, 0));
        x.strike();
        due("42 it stays kept", 2, x.undo());
        x.strike();
        x.image();
        x.strike();
        due("42 what was kept latest", 1, x.undo());
        due("43 tear", 1, x.tear());
        due("43 again", 0, x.tear());
        due("42 none", NONE, x.undo());
        due("42 findings stay", 2, x.status(-1));
    }

    /** Promises 44 and 45. */
    private static void countsAndStatus() {
        NewDishes x = new NewDishes();
        x.feed(0, 4);
        due("44 bytes", 4, x.count(0));
        due("44 edicts", 2, x.count(1));
        x.edict(0, false);
        due("44 edicts", 1, x.count(1));
        due("44 beyond", BEYOND, x.count(2));
        due("44 beyond", BEYOND, x.count(-1));
        due("45 beyond", 2, x.status(0));
        due("45 beyond", BEYOND, x.status(-2));
        due("45 beyond", BEYOND, x.status(7));
        due("45 beyond", BEYOND, x.status(MIN));
        due("45 beyond", BEYOND, x.status(MAX));
        due("45 counted", 6, x.status(0));
        fill(x, 0, 20);
        x.image();
        x.enter(0, 20);
        x.as(0, 1);
        x.by(40);
        x.serve(0, 20);
        x.lays(0);
        x.sheet(0, 8, -1);
        x.undo();
        int[] want = {6, 1, 1, 1, 1, 1, 1};
        for (int which = 0; which < 7; which++) {
            due("45 status " + which, want[which], x.status(which));
        }
        due("45 all", 12, x.status(-1));
    }
}
