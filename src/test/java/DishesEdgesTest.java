import java.io.IOException;

/** The boundary cases of things, edicts and dishes: the terms, and promises 1 to 11. */
public final class DishesEdgesTest {
    private static final int LAST_DISH = 4499;
    private static final int THREE_THINGS = 20 * 0b1000101 + 4 * 3 + 2;

    public static void main(String[] args) throws IOException {
        Bench.run(DishesEdgesTest.class);
    }

    // ---- the terms

    @Words(promise = 0, say = "FINDINGS are answers below -1000000000: -1000000001 BEYOND, -1000000002 FULL, "
        + "-1000000003 KIND, -1000000004 NONE, -1000000005 STATE, -1000000006 MISSING, -1000000007 SIZE")
    static void eachFindingHasItsNumber(Bench b) {
        b.refuses("BEYOND", -1000000001, x -> x.storeOf(8));
        b.refuses("FULL", -1000000002, Bench::full, x -> x.enter(0, 20));
        b.refuses("KIND", -1000000003, x -> x.as(0, 1));
        b.refuses("NONE", -1000000004, Bench::fresh, x -> x.strike());
        b.refuses("STATE", -1000000005, x -> x.serve(0, 40));
        b.refuses("MISSING", -1000000006, x -> x.lays(3));
        b.refuses("SIZE", -1000000007, x -> x.sheet(0, 8, -1));
    }

    @Words(promise = 0, say = "(in longs, too)")
    static void findingsAreTheSameInLongs(Bench b) {
        b.refuses("BEYOND as a long", -1000000001, x -> x.write(4, 0, 0L));
        b.refuses("MISSING as a long", -1000000006, x -> x.write(3, 0, 0L));
    }

    @Words(promise = 0, say = "one that answers a finding changes nothing but status()")
    static void manyRefusedCallsChangeNothing(Bench b) {
        NewDishes called = Bench.made(Bench::lively);
        NewDishes left = Bench.made(Bench::lively);
        int before = called.status(-1);
        called.store(8, 1);
        called.like(0, 8, 1);
        called.edict(2, true);
        called.enter(6, 20);
        called.turn(0, 6);
        called.as(0, 1);
        called.serve(0, 40);
        called.meals(0, 31);
        called.feed(0, 5);
        called.sheet(0, 9, 1);
        called.write(0, 3, 1L);
        called.copy(0, 0, 1, 0, 1);
        called.lays(3);
        called.menu(0, 6);
        called.status(7);
        b.due("all are counted", before + 15, called.status(-1));
        b.hold(Bench.allOf(left).equals(Bench.allOf(called)), "refused calls changed something");
    }

    @Words(promise = 0, say = "Quotients are cut.")
    static void partsOfADishAreCut(Bench b) {
        b.due("set of the last manner", 1, Bench::fresh, x -> x.of(39, 0));
        b.due("way of the last manner", 4, Bench::fresh, x -> x.of(39, 1));
        b.due("way of the last sauce", 0, Bench::fresh, x -> x.of(23, 1));
    }

    @Words(promise = 0, say = "Sets are told by bits.")
    static void setsAreToldByBits(Bench b) {
        for (int thing = 0; thing < 8; thing++) {
            int set = 1 << thing;
            b.due("thing " + thing, 20 * set, Bench::fresh, x -> x.dish(set, 0, 0));
            NewDishes x = Bench.made(Bench::noStores);
            x.store(thing, 1);
            b.due("its dish can be", 1, x.of(20 * set, 4));
            b.due("no other", 20, x.many(0));
        }
    }

    @Words(promise = 0, say = "THINGS 0 to 7 (quail, rice, ..), each with STORE (how much is there, 0 to 99; 5 at first)")
    static void thingsHaveFiveAtFirst(Bench b) {
        for (int thing = 0; thing < 8; thing++) {
            int t = thing;
            b.due("store " + t, 5, Bench::fresh, x -> x.storeOf(t));
        }
        b.due("all stores", 40, Bench::fresh, x -> x.now(3));
    }

    @Words(promise = 0, say = "and LIKED (-9 to 9; 0 at first)")
    static void thingsAreNotLikedAtFirst(Bench b) {
        for (int thing = 0; thing < 8; thing++) {
            int t = thing;
            b.due("thing " + t, 0, Bench::fresh, x -> x.like(0, t, 9));
        }
    }

    @Words(promise = 0, say = "WAYS 0 to 4 (raw, fried, ..), SAUCES 0 to 3, each LIKED (-9 to 9; 0 at first).")
    static void waysAndSaucesAreNotLikedAtFirst(Bench b) {
        for (int way = 0; way < 5; way++) {
            int w = way;
            b.due("way " + w, 0, Bench::fresh, x -> x.like(1, w, 9));
        }
        for (int sauce = 0; sauce < 4; sauce++) {
            int s = sauce;
            b.due("sauce " + s, 0, Bench::fresh, x -> x.like(2, s, 9));
        }
    }

    @Words(promise = 0, say = "A DISH: a set of one to three THINGS, a WAY, a SAUCE; told as a number: 20 times the set, "
        + "and 4 times the WAY, and the SAUCE.")
    static void everyNumberIsADishOrNone(Bench b) {
        for (int set = 0; set < 260; set++) {
            boolean is = set < 256 && Integer.bitCount(set) >= 1 && Integer.bitCount(set) <= 3;
            NewDishes x = new NewDishes();
            for (int manner = 0; manner < 20; manner++) {
                int number = 20 * set + manner;
                b.due("set of " + number, is ? set : Bench.BEYOND, x.of(number, 0));
                b.due("way of " + number, is ? manner / 4 : Bench.BEYOND, x.of(number, 1));
                b.due("sauce of " + number, is ? manner % 4 : Bench.BEYOND, x.of(number, 2));
            }
        }
    }

    @Words(promise = 0, say = "So there are 92 times 20 DISHES.")
    static void thereAre1840Dishes(Bench b) {
        b.due("all are new at first", 92 * 20, Bench::fresh, x -> x.many(1));
        int dishes = 0;
        for (int from = -100; from < 5300; from += 300) {
            NewDishes x = new NewDishes();
            for (int number = from; number < from + 300; number++) {
                dishes += x.of(number, 5) == 1 ? 1 : 0;
            }
        }
        b.due("dishes by number", 92 * 20, dishes);
    }

    @Words(promise = 0, say = "EDICTS: 0 SAUCES matter, 1 WAYS matter (both in force at first).")
    static void edictsAreInForceAtFirst(Bench b) {
        b.due("how many", 2, Bench::fresh, x -> x.count(1));
        b.due("sauces", 0, x -> x.enter(0, 20), x -> x.bars(0, 21));
        b.due("ways", 0, x -> x.enter(0, 20), x -> x.bars(0, 24));
        Bench.State noSauces = x -> x.edict(0, x.enter(0, 20) != 0);
        b.due("0 is of sauces", 1, noSauces, x -> x.bars(0, 21));
        b.due("0 is not of ways", 0, noSauces, x -> x.bars(0, 24));
        Bench.State noWays = x -> x.edict(1, x.enter(0, 20) != 0);
        b.due("1 is of ways", 1, noWays, x -> x.bars(0, 24));
        b.due("1 is not of sauces", 0, noWays, x -> x.bars(0, 21));
    }

    @Words(promise = 0, say = "NEW: a DISH that no ENTRY BARS.")
    static void newIsWhatNoEntryBars(Bench b) {
        b.due("an empty book", 1, Bench::fresh, x -> x.of(20, 5));
        b.due("one entry", 0, x -> x.enter(0, 20), x -> x.of(20, 5));
        b.due("a full book that bars nothing", 1, Bench::full, x -> x.of(20, 5));
        Bench.State lastBars = x -> {
            Bench.fill(x, Bench.GUEST, 20, 29);
            x.enter(0, 20);
        };
        b.due("the last of a full book", 0, lastBars, x -> x.of(20, 5));
    }

    @Words(promise = 0, say = "CAN BE: there is some STORE of each THING in it.")
    static void canBeWithOneOfEach(Bench b) {
        Bench.State one = x -> Bench.stores(x, 1, 0, 1, 0, 0, 0, 1, 0);
        b.due("one of each is enough", 1, one, x -> x.of(THREE_THINGS, 4));
        for (int thing : new int[] {0, 2, 6}) {
            Bench.State without = x -> {
                Bench.stores(x, 99, 99, 99, 99, 99, 99, 99, 99);
                x.store(thing, 0);
            };
            b.due("none of thing " + thing, 0, without, x -> x.of(THREE_THINGS, 4));
        }
    }

    @Words(promise = 0, say = "LIKING of a DISH: what all THINGS in it, WAY and SAUCE are LIKED together.")
    static void likingGoesFromLeastToMost(Bench b) {
        for (int v : new int[] {-9, 0, 9}) {
            Bench.State all = x -> likeAll(x, v);
            b.due("three things", 5L * v, all, x -> x.of(THREE_THINGS, 3));
            b.due("two things", 4L * v, all, x -> x.of(20 * 3, 3));
            b.due("one thing", 3L * v, all, x -> x.of(20 * 128 + 19, 3));
        }
    }

    private static void likeAll(NewDishes x, int v) {
        int[] many = {8, 5, 4};
        for (int what = 0; what < 3; what++) {
            for (int which = 0; which < many[what]; which++) {
                x.like(what, which, v);
            }
        }
    }

    @Words(promise = 0, say = "NEAR of two DISHES: how many THINGS are in one of them alone, and 1 if WAYS, and 1 if SAUCES are unlike.")
    static void nearGoesFromNoneToEight(Bench b) {
        b.due("the same", 0, Bench::fresh, x -> x.near(THREE_THINGS, THREE_THINGS));
        b.due("six things", 6, Bench::fresh, x -> x.near(20 * 7, 20 * 224));
        b.due("six things and a way", 7, Bench::fresh, x -> x.near(20 * 7, 20 * 224 + 16));
        b.due("six things and a sauce", 7, Bench::fresh, x -> x.near(20 * 7 + 3, 20 * 224));
        b.due("all", 8, Bench::fresh, x -> x.near(20 * 7, LAST_DISH));
    }

    // ---- promise 1

    @Words(promise = 1, say = "An empty BOOK, DAY 0")
    static void newObjectHasAnEmptyBookOnDay0(Bench b) {
        b.due("entries", 0, Bench::fresh, x -> x.now(1));
        b.due("guests", 0, Bench::fresh, x -> x.now(2));
        b.due("day", 0, Bench::fresh, x -> x.now(0));
        b.refuses("entry 0", Bench.BEYOND, Bench::fresh, x -> x.entryOf(0, 0));
    }

    @Words(promise = 1, say = "THE TAPE is empty")
    static void newObjectHasAnEmptyTape(Bench b) {
        b.due("bytes", 0, Bench::fresh, x -> x.count(0));
        b.due("wiped", 0, Bench::fresh, x -> x.wipe());
        b.due("its text ends too early", -1, Bench::fresh, x -> x.book());
    }

    @Words(promise = 1, say = "no image is kept")
    static void newObjectKeepsNoImage(Bench b) {
        b.refuses("undo", Bench.NONE, Bench::fresh, x -> x.undo());
        b.due("tear", 0, Bench::fresh, x -> x.tear());
    }

    @Words(promise = 1, say = "An empty BOOK")
    static void objectsShareNothing(Bench b) {
        NewDishes one = Bench.made(Bench::lively);
        NewDishes other = new NewDishes();
        b.due("findings of another", 0, other.status(-1));
        b.hold(Bench.allOf(new NewDishes()).equals(Bench.allOf(other)), "an object changed with another one");
        b.due("the lively one", 7, one.now(1));
    }

    // ---- promises 2 and 3

    @Words(promise = 2, say = "STORE of a THING becomes v: what it was.")
    static void storeFromNoneToMost(Bench b) {
        for (int thing : new int[] {0, 7}) {
            NewDishes x = new NewDishes();
            b.due("at first", 5, x.store(thing, 0));
            b.due("none", 0, x.storeOf(thing));
            b.due("was none", 0, x.store(thing, 99));
            b.due("most", 99, x.storeOf(thing));
            b.due("was most", 99, x.store(thing, 99));
            b.due("no other thing", 35 + 99, x.now(3));
        }
    }

    @Words(promise = 2, say = "BEYOND.")
    static void storeOfNoThing(Bench b) {
        for (int thing : Bench.NO_THINGS) {
            b.refuses("store(" + thing + ", 3)", Bench.BEYOND, x -> x.store(thing, 3));
        }
    }

    @Words(promise = 2, say = "BEYOND.")
    static void storeTooSmall(Bench b) {
        for (int v : new int[] {-1, -99, Bench.MIN, Bench.MIN + 5}) {
            b.refuses("store(0, " + v + ")", Bench.BEYOND, x -> x.store(0, v));
        }
    }

    @Words(promise = 2, say = "BEYOND.")
    static void storeTooLarge(Bench b) {
        for (int v : new int[] {100, 128, 256, 256 + 5, 65536 + 5, Bench.MAX}) {
            b.refuses("store(7, " + v + ")", Bench.BEYOND, x -> x.store(7, v));
        }
    }

    @Words(promise = 3, say = "STORE of a THING.")
    static void storeOfFirstAndLast(Bench b) {
        b.keeps("storeOf(0)", 1, Bench::lively, x -> x.storeOf(0));
        b.keeps("storeOf(1)", 0, Bench::lively, x -> x.storeOf(1));
        b.keeps("storeOf(2)", 99, Bench::lively, x -> x.storeOf(2));
        b.keeps("storeOf(7)", 6, Bench::lively, x -> x.storeOf(7));
    }

    @Words(promise = 3, say = "BEYOND.")
    static void noStoreOfNoThing(Bench b) {
        for (int thing : Bench.NO_THINGS) {
            b.refuses("storeOf(" + thing + ")", Bench.BEYOND, x -> x.storeOf(thing));
        }
    }

    // ---- promise 4

    @Words(promise = 4, say = "What 0 a THING, 1 a WAY, 2 a SAUCE is LIKED becomes v (-9 to 9): what it was.")
    static void likeFromLeastToMost(Bench b) {
        int[] last = {7, 4, 3};
        for (int what = 0; what < 3; what++) {
            for (int which : new int[] {0, last[what]}) {
                NewDishes x = new NewDishes();
                b.due("at first", 0, x.like(what, which, -9));
                b.due("least", -9, x.like(what, which, 9));
                b.due("most", 9, x.like(what, which, 0));
                b.due("nothing", 0, x.like(what, which, 0));
            }
        }
    }

    @Words(promise = 4, say = "What 0 a THING, 1 a WAY, 2 a SAUCE is LIKED")
    static void likeTouchesItsOwnAlone(Bench b) {
        b.due("thing 3", 6, x -> x.like(0, 3, 6), x -> x.of(20 * 8, 3));
        b.due("not way or sauce 3", 0, x -> x.like(0, 3, 6), x -> x.of(20 + 15, 3));
        b.due("way 3", 6, x -> x.like(1, 3, 6), x -> x.of(20 + 12, 3));
        b.due("not thing or sauce 3", 0, x -> x.like(1, 3, 6), x -> x.of(20 * 8 + 3, 3));
        b.due("sauce 3", 6, x -> x.like(2, 3, 6), x -> x.of(20 + 3, 3));
        b.due("not thing or way 3", 0, x -> x.like(2, 3, 6), x -> x.of(20 * 8 + 12, 3));
    }

    @Words(promise = 4, say = "BEYOND.")
    static void likeOfNoWhat(Bench b) {
        for (int what : new int[] {-1, 3, 4, 32, 256, Bench.MIN, Bench.MAX}) {
            b.refuses("like(" + what + ", 0, 1)", Bench.BEYOND, x -> x.like(what, 0, 1));
        }
    }

    @Words(promise = 4, say = "BEYOND.")
    static void likeOfNoSuchThingWayOrSauce(Bench b) {
        int[] many = {8, 5, 4};
        for (int what = 0; what < 3; what++) {
            int w = what;
            for (int which : new int[] {-1, many[what], many[what] + 1, 32, 256, Bench.MIN, Bench.MAX}) {
                b.refuses("like(" + w + ", " + which + ", 1)", Bench.BEYOND, x -> x.like(w, which, 1));
            }
        }
    }

    @Words(promise = 4, say = "(-9 to 9)")
    static void likedTooLittleOrTooMuch(Bench b) {
        for (int what = 0; what < 3; what++) {
            int w = what;
            for (int v : new int[] {-10, 10, -256, 256, Bench.MIN, Bench.MAX}) {
                b.refuses("like(" + w + ", 3, " + v + ")", Bench.BEYOND, x -> x.like(w, 3, v));
            }
        }
    }

    // ---- promise 5

    @Words(promise = 5, say = "1 if that is new, else 0")
    static void edictIsNewOrNot(Bench b) {
        for (int which = 0; which < 2; which++) {
            NewDishes x = new NewDishes();
            b.due("in force already", 0, x.edict(which, true));
            b.due("both", 2, x.count(1));
            b.due("not in force", 1, x.edict(which, false));
            b.due("one", 1, x.count(1));
            b.due("not in force already", 0, x.edict(which, false));
            b.due("one still", 1, x.count(1));
            b.due("the other one", 1, x.edict(1 - which, false));
            b.due("none", 0, x.count(1));
            b.due("in force", 1, x.edict(which, true));
            b.due("one again", 1, x.count(1));
        }
    }

    @Words(promise = 5, say = "BEYOND.")
    static void noSuchEdict(Bench b) {
        for (int which : new int[] {-1, 2, 3, 32, 33, 256, Bench.MIN, Bench.MIN + 1, Bench.MAX}) {
            b.refuses("edict(" + which + ", true)", Bench.BEYOND, x -> x.edict(which, true));
            b.refuses("edict(" + which + ", false)", Bench.BEYOND, x -> x.edict(which, false));
        }
    }

    // ---- promise 6

    @Words(promise = 6, say = "The number of a DISH.")
    static void numbersOfTheFirstAndTheLastDish(Bench b) {
        b.keeps("first", 20, Bench::lively, x -> x.dish(1, 0, 0));
        b.keeps("last", LAST_DISH, Bench::lively, x -> x.dish(224, 4, 3));
        b.keeps("last way", 36, Bench::lively, x -> x.dish(1, 4, 0));
        b.keeps("last sauce", 23, Bench::lively, x -> x.dish(1, 0, 3));
    }

    @Words(promise = 6, say = "set (1 to 3 THINGS)")
    static void dishOfNoneOrMoreThanThreeThings(Bench b) {
        b.refuses("no thing", Bench.BEYOND, x -> x.dish(0, 0, 0));
        b.refuses("four things", Bench.BEYOND, x -> x.dish(15, 0, 0));
        b.refuses("all things", Bench.BEYOND, x -> x.dish(255, 0, 0));
        NewDishes x = new NewDishes();
        for (int set = 0; set < 256; set++) {
            int things = Integer.bitCount(set);
            b.due("set " + set, things >= 1 && things <= 3 ? 20 * set : Bench.BEYOND, x.dish(set, 0, 0));
        }
    }

    @Words(promise = 6, say = "set (1 to 3 THINGS)")
    static void dishOfThingsThatAreNone(Bench b) {
        for (int set : new int[] {-1, -128, 256, 257, 512, 65536, 1 << 30, Bench.MIN, Bench.MIN + 1, Bench.MAX}) {
            b.refuses("dish(" + set + ", 0, 0)", Bench.BEYOND, x -> x.dish(set, 0, 0));
        }
    }

    @Words(promise = 6, say = "BEYOND: set (1 to 3 THINGS), way, sauce.")
    static void dishOfNoSuchWay(Bench b) {
        for (int way : new int[] {-1, 5, 6, 32, 256, Bench.MIN, Bench.MAX}) {
            b.refuses("dish(1, " + way + ", 0)", Bench.BEYOND, x -> x.dish(1, way, 0));
        }
    }

    @Words(promise = 6, say = "BEYOND: set (1 to 3 THINGS), way, sauce.")
    static void dishOfNoSuchSauce(Bench b) {
        for (int sauce : Bench.NOT_0_TO_3) {
            b.refuses("dish(1, 0, " + sauce + ")", Bench.BEYOND, x -> x.dish(1, 0, sauce));
        }
    }

    // ---- promise 7

    @Words(promise = 7, say = "3 LIKING (any number)")
    static void likingMayBeBelowNothing(Bench b) {
        b.due("far below", -45, x -> likeAll(x, -9), x -> x.of(LAST_DISH, 3));
        b.due("one below", -1, x -> x.like(2, 3, -1), x -> x.of(LAST_DISH, 3));
        b.due("most", 45, x -> likeAll(x, 9), x -> x.of(LAST_DISH, 3));
        b.due("no finding is counted", 0, x -> {
            x.like(2, 3, -1);
            x.of(LAST_DISH, 3);
        }, x -> x.status(-1));
    }

    @Words(promise = 7, say = "what 0 the set, 1 WAY, 2 SAUCE, 3 LIKING (any number), 4 1 if it CAN BE, else 0, 5 1 if NEW, else 0.")
    static void ofAnswersOneOrNone(Bench b) {
        b.keeps("can't be", 0, Bench::noStores, x -> x.of(20, 4));
        b.keeps("new all the same", 1, Bench::noStores, x -> x.of(20, 5));
        b.keeps("not new", 0, Bench::allBarred, x -> x.of(20, 5));
        b.keeps("can be all the same", 1, Bench::allBarred, x -> x.of(20, 4));
    }

    @Words(promise = 7, say = "BEYOND: no DISH.")
    static void ofNoDish(Bench b) {
        for (int dish : Bench.NO_DISHES) {
            for (int what = 0; what < 6; what++) {
                int w = what;
                b.refuses("of(" + dish + ", " + w + ")", Bench.BEYOND, x -> x.of(dish, w));
            }
        }
    }

    @Words(promise = 7, say = "Of a DISH: what 0 the set")
    static void ofADishNoSuchWhat(Bench b) {
        for (int what : new int[] {-1, 6, 7, 32, 256, Bench.MIN, Bench.MAX}) {
            b.refuses("of(20, " + what + ")", Bench.BEYOND, x -> x.of(20, what));
        }
    }

    // ---- promises 8 and 9

    @Words(promise = 8, say = "NEAR of two DISHES.")
    static void nearIsTheSameBothWays(Bench b) {
        b.keeps("first and last", 6, Bench::lively, x -> x.near(20, LAST_DISH));
        b.keeps("last and first", 6, Bench::lively, x -> x.near(LAST_DISH, 20));
        b.keeps("itself", 0, Bench::lively, x -> x.near(LAST_DISH, LAST_DISH));
    }

    @Words(promise = 8, say = "BEYOND.")
    static void nearOfNoDish(Bench b) {
        for (int dish : Bench.NO_DISHES) {
            b.refuses("near(" + dish + ", 20)", Bench.BEYOND, x -> x.near(dish, 20));
            b.refuses("near(20, " + dish + ")", Bench.BEYOND, x -> x.near(20, dish));
        }
    }

    @Words(promise = 9, say = "at most n (0 to 8)")
    static void nearHadFromNoneToEight(Bench b) {
        Bench.State ladder = x -> {
            int[] dishes = {20 * 7, 20 * 7 + 1, 20 * 7 + 5, 20 * 3 + 5, 20 + 5, 20 * 9 + 5, 20 * 24 + 5, 20 * 56 + 5};
            for (int dish : dishes) {
                x.enter(0, dish);
            }
        };
        // They are near by 0, 1, 2, 3, 4, 5, 7 and 8.
        int[] want = {1, 2, 3, 4, 5, 6, 6, 7, 8};
        for (int n = 0; n <= 8; n++) {
            int most = n;
            b.keeps("nearHad(140, " + n + ")", want[n], ladder, x -> x.nearHad(20 * 7, most));
        }
    }

    @Words(promise = 9, say = "(all but those of GUESTS)")
    static void nearHadCountsNoGuests(Bench b) {
        b.due("guests alone", 0, Bench::full, x -> x.nearHad(20, 8));
        for (int kind = 0; kind < 6; kind++) {
            int k = kind;
            b.due("kind " + k, k == Bench.GUEST ? 0 : 1, x -> x.enter(k, 20), x -> x.nearHad(20, 0));
        }
    }

    @Words(promise = 9, say = "How many ENTRIES' DISHES")
    static void nearHadOfEmptyAndFullBooks(Bench b) {
        b.due("empty", 0, Bench::fresh, x -> x.nearHad(20, 8));
        b.due("full", 30, x -> Bench.fill(x, 0, 20, 30), x -> x.nearHad(20, 0));
        b.due("struck out", 29, x -> {
            Bench.fill(x, 0, 20, 30);
            x.strike();
        }, x -> x.nearHad(20, 0));
    }

    @Words(promise = 9, say = "BEYOND.")
    static void nearHadOfNoDish(Bench b) {
        for (int dish : Bench.NO_DISHES) {
            b.refuses("nearHad(" + dish + ", 8)", Bench.BEYOND, x -> x.nearHad(dish, 8));
        }
    }

    @Words(promise = 9, say = "n (0 to 8). BEYOND.")
    static void nearHadByTooFewOrTooMany(Bench b) {
        for (int n : new int[] {-1, 9, 10, 256, Bench.MIN, Bench.MAX}) {
            b.refuses("nearHad(20, " + n + ")", Bench.BEYOND, x -> x.nearHad(20, n));
        }
    }

    // ---- promises 10 and 11

    @Words(promise = 10, say = "what 0 CAN BE, 1 are NEW, 2 both, 3 neither.")
    static void manyFromNoneToAll(Bench b) {
        int[][] want = {{1840, 1840, 1840, 0}, {0, 1840, 0, 0}, {1840, 0, 0, 0}, {0, 0, 0, 1840}};
        Bench.State[] states = {Bench::fresh, Bench::noStores, Bench::allBarred, x -> {
            Bench.noStores(x);
            Bench.allBarred(x);
        }};
        for (int state = 0; state < 4; state++) {
            for (int what = 0; what < 4; what++) {
                int w = what;
                b.keeps("state " + state + ", many(" + w + ")", want[state][what], states[state], x -> x.many(w));
            }
        }
    }

    @Words(promise = 10, say = "BEYOND.")
    static void manyOfNoSuchWhat(Bench b) {
        for (int what : Bench.NOT_0_TO_3) {
            b.refuses("many(" + what + ")", Bench.BEYOND, x -> x.many(what));
        }
    }

    @Words(promise = 11, say = "The least DISH (by number) from one on that CAN BE and is NEW.")
    static void nextFromTheFirstToTheLast(Bench b) {
        b.keeps("from 0", 20, Bench::fresh, x -> x.next(0));
        b.keeps("from 19", 20, Bench::fresh, x -> x.next(19));
        b.keeps("from the first", 20, Bench::fresh, x -> x.next(20));
        b.keeps("from one behind it", 21, Bench::fresh, x -> x.next(21));
        b.keeps("from a set of four things", 20 * 16, Bench::fresh, x -> x.next(20 * 15));
        b.keeps("from a set's last manner", 20 * 14 + 19, Bench::fresh, x -> x.next(20 * 14 + 19));
        b.keeps("from the last", LAST_DISH, Bench::fresh, x -> x.next(LAST_DISH));
        b.due("not one that is had", 21, x -> x.enter(0, 20), x -> x.next(0));
        b.due("not one that can't be", 40, x -> x.store(0, 0), x -> x.next(0));
    }

    @Words(promise = 11, say = "BEYOND: number below 0.")
    static void nextFromBelowNothing(Bench b) {
        for (int number : new int[] {-1, -20, Bench.MIN, Bench.MIN + 20}) {
            b.refuses("next(" + number + ")", Bench.BEYOND, x -> x.next(number));
            b.refuses("next(" + number + ") ahead of NONE", Bench.BEYOND, Bench::noStores, x -> x.next(number));
        }
    }

    @Words(promise = 11, say = "NONE.")
    static void nextOfNone(Bench b) {
        for (int number : new int[] {4500, 5120, 65536, Bench.MAX}) {
            b.refuses("next(" + number + ")", Bench.NONE, x -> x.next(number));
        }
        b.refuses("nothing can be", Bench.NONE, Bench::noStores, x -> x.next(0));
        b.refuses("nothing is new", Bench.NONE, Bench::allBarred, x -> x.next(0));
        b.refuses("the last one is had", Bench.NONE, x -> x.enter(0, LAST_DISH), x -> x.next(LAST_DISH));
    }
}
