import java.io.IOException;

/** The boundary cases of meals and of ways to a dish: their terms, and promises 22 to 31. */
public final class MealsEdgesTest {
    private static final int LAST_DISH = 4499;

    public static void main(String[] args) throws IOException {
        Bench.run(MealsEdgesTest.class);
    }

    private static Bench.State onDay(int day) {
        return x -> Bench.tell(x, "day " + day);
    }

    private static Bench.State withStores(int... stores) {
        return x -> {
            Bench.noStores(x);
            Bench.stores(x, stores);
        };
    }

    private static Bench.State both(Bench.State one, Bench.State other) {
        return x -> {
            one.of(x);
            other.of(x);
        };
    }

    // ---- the terms

    @Words(promise = 0, say = "A MEAL (DAY is 0 at first; 9999 at most)")
    static void mealsFromDay0To9999(Bench b) {
        NewDishes x = new NewDishes();
        b.due("at first", 0, x.now(0));
        Bench.tell(x, "day 9998");
        b.due("a meal", 0, x.serve(0, 20));
        b.due("the last day", 9999, x.now(0));
        b.due("no meal more", Bench.STATE, x.serve(0, 21));
        b.due("nor for a guest", Bench.STATE, x.serve(2, 21));
        b.due("the last day still", 9999, x.now(0));
    }

    @Words(promise = 0, say = "a DISH that CAN BE and is NEW (whatever else, if it is for a GUEST) is served: "
        + "an ENTRY of a KIND, on DAY; STORE of each THING in it is one less.")
    static void aMealTakesOneOfEachThing(Bench b) {
        NewDishes x = Bench.made(withStores(1, 1, 99, 1));
        b.due("the last ones", 0, x.serve(5, 20 * 7));
        b.due("thing 0", 0, x.storeOf(0));
        b.due("thing 1", 0, x.storeOf(1));
        b.due("thing 2", 98, x.storeOf(2));
        b.due("thing 3 is not in it", 1, x.storeOf(3));
        b.due("kind", 5, x.entryOf(0, 0));
        b.due("dish", 20 * 7, x.entryOf(0, 1));
        b.due("on the day before it", 0, x.entryOf(0, 2));
    }

    @Words(promise = 0, say = "Then DAY is one more.")
    static void aMealTakesADay(Bench b) {
        NewDishes x = new NewDishes();
        for (int day = 0; day < 5; day++) {
            x.serve(2, 20);
            b.due("its day", day, x.entryOf(day, 2));
            b.due("day", day + 1, x.now(0));
        }
    }

    @Words(promise = 0, say = "BEST: the DISH that CAN BE and is NEW with the greatest LIKING; of several the least number.")
    static void bestOfSeveralIsTheLeast(Bench b) {
        b.due("all alike", 20, Bench::fresh, x -> x.best());
        b.due("all loathed alike", 20 * 128, x -> {
            Bench.stores(x, 0, 0, 0, 0, 0, 0, 0, 1);
            x.like(0, 7, -9);
        }, x -> x.best());
        // Things 1 and 2 together would be liked most, but were had.
        b.due("two sets alike", 20 * 2, x -> {
            Bench.stores(x, 0, 1, 1, 0, 0, 0, 0, 0);
            x.like(0, 1, 3);
            x.like(0, 2, 3);
            x.edict(0, false);
            x.edict(1, false);
            x.enter(0, 20 * 6);
        }, x -> x.best());
        b.due("two ways alike", 20 + 4, x -> {
            x.like(1, 1, 9);
            x.like(1, 4, 9);
            Bench.stores(x, 1, 0, 0, 0, 0, 0, 0, 0);
        }, x -> x.best());
        b.due("a thing more of no liking", 20 * 2, x -> x.like(0, 1, 9), x -> x.best());
        b.due("the first thing liked", 20, x -> x.like(0, 0, 9), x -> x.best());
        b.due("the first way liked", 20, x -> x.like(1, 0, 9), x -> x.best());
        b.due("the first sauce liked", 20, x -> x.like(2, 0, 9), x -> x.best());
        b.due("most of all", 20 * 224 + 19, x -> {
            for (int thing = 5; thing < 8; thing++) {
                x.like(0, thing, 9);
            }
            x.like(1, 4, 9);
            x.like(2, 3, 9);
        }, x -> x.best());
    }

    @Words(promise = 0, say = "with the greatest LIKING; of several the least number")
    static void bestOfTwoSetsInUnlikeWays(Bench b) {
        // Thing 1 is liked more than thing 0, but its best way was had: so raw {0} and fried {1} come to as much.
        Bench.State alike = x -> {
            Bench.stores(x, 1, 1, 0, 0, 0, 0, 0, 0);
            x.like(0, 0, 1);
            x.like(0, 1, 3);
            x.like(1, 0, 2);
            x.edict(0, false);
            x.enter(0, 40);
            for (int way = 0; way < 5; way++) {
                x.enter(0, 60 + 4 * way);
            }
        };
        b.due("liking of the one", 3, alike, x -> x.of(20, 3));
        b.due("liking of the other", 3, alike, x -> x.of(44, 3));
        b.due("the least", 20, alike, x -> x.best());
        b.due("the greater liking", 44, both(alike, x -> x.like(1, 1, 1)), x -> x.best());
    }

    @Words(promise = 0, say = "BEST: the DISH that CAN BE and is NEW with the greatest LIKING")
    static void bestGoesWithWhatIsLikedNow(Bench b) {
        NewDishes x = Bench.made(y -> y.like(1, 4, 9));
        b.due("the last way", 36, x.best());
        x.like(1, 4, 0);
        b.due("no way more than another", 20, x.best());
        x.like(0, 0, -1);
        x.like(2, 3, 1);
        b.due("the last sauce", 43, x.best());
        x.like(2, 3, -1);
        b.due("the first sauce again", 40, x.best());
    }

    @Words(promise = 0, say = "ON: n MEALS, each of BEST, as a KIND (whatever DAY); nothing changes.")
    static void onWhateverDay(Bench b) {
        b.keeps("on the last day", 40, both(onDay(9999), x -> x.enter(0, 61)), x -> x.on(4, 2));
        b.keeps("thirty meals on the last day", 20 * 32 + 4, onDay(9999), x -> x.on(0, 30));
        b.keeps("lasts on the last day", 40, onDay(9999), x -> x.lasts(0));
    }

    @Words(promise = 0, say = "LASTS: how many such there are till there is none (or 60).")
    static void lastsSixtyAtMost(Bench b) {
        b.due("none", 0, Bench::noStores, x -> x.lasts(0));
        b.due("one", 1, withStores(0, 0, 0, 1), x -> x.lasts(0));
        b.due("59", 59, withStores(20, 20, 19), x -> x.lasts(0));
        b.due("60", 60, withStores(20, 20, 20), x -> x.lasts(0));
        b.due("61 are 60", 60, withStores(20, 20, 20, 1), x -> x.lasts(0));
        b.due("all are 60", 60, withStores(99, 99, 99, 99, 99, 99, 99, 99), x -> x.lasts(2));
        b.due("not more than manners", 20, withStores(99), x -> x.lasts(0));
    }

    @Words(promise = 0, say = "STEPS from a DISH to a DISH: the least number of changes, each of one thing "
        + "(a THING comes or goes, the WAY, the SAUCE becomes another one)")
    static void eachStepIsOneChange(Bench b) {
        b.due("a thing comes", 1, Bench::fresh, x -> x.steps(20, 60));
        b.due("a thing goes", 1, Bench::fresh, x -> x.steps(60, 20));
        b.due("the first way to the last", 1, Bench::fresh, x -> x.steps(20, 36));
        b.due("the first sauce to the last", 1, Bench::fresh, x -> x.steps(20, 23));
        b.due("a way and a sauce", 2, Bench::fresh, x -> x.steps(20, 39));
        b.due("a thing for another", 2, Bench::fresh, x -> x.steps(20, 40));
        b.due("three for three", 6, Bench::fresh, x -> x.steps(20 * 7, 20 * 224));
        b.due("all", 8, Bench::fresh, x -> x.steps(20 * 7, LAST_DISH));
    }

    @Words(promise = 0, say = "all DISHES behind the first one being such as CAN BE and are NEW")
    static void stepsGoThroughNewOnesAlone(Bench b) {
        b.due("through what can't be", Bench.NONE, x -> {
            Bench.stores(x, 1, 1, 0, 0, 0, 0, 0, 0);
            x.enter(4, 60);
            x.turn(0, 0);
            x.edict(0, false);
            x.edict(1, false);
        }, x -> x.steps(20, 40));
        // Things 0 and 1 together are had raw, with any sauce: it goes another way round, there and back.
        b.due("round what was had", 4, x -> {
            Bench.stores(x, 1, 1, 0, 0, 0, 0, 0, 0);
            x.enter(5, 60);
        }, x -> x.steps(20, 40));
        b.due("from what can't be", 1, x -> Bench.stores(x, 1, 0), x -> x.steps(60, 20));
        b.due("from what was had", 1, x -> x.enter(3, 20), x -> x.steps(20, 21));
    }

    // ---- promise 22

    @Words(promise = 22, say = "BEST.")
    static void bestOfOne(Bench b) {
        b.keeps("one dish is left", 20 * 128 + 19, x -> {
            Bench.stores(x, 0, 0, 0, 0, 0, 0, 0, 1);
            x.edict(0, false);
            for (int way = 0; way < 4; way++) {
                x.enter(0, 20 * 128 + 4 * way);
            }
            for (int sauce = 0; sauce < 3; sauce++) {
                x.enter(3, 20 * 128 + 16 + sauce);
            }
        }, x -> x.best());
    }

    @Words(promise = 22, say = "NONE: none.")
    static void bestOfNone(Bench b) {
        b.refuses("nothing can be", Bench.NONE, Bench::noStores, x -> x.best());
        b.refuses("nothing is new", Bench.NONE, Bench::allBarred, x -> x.best());
        b.refuses("what can be isn't new", Bench.NONE, both(withStores(1), x -> x.enter(4, 20)), x -> x.best());
    }

    // ---- promise 23

    @Words(promise = 23, say = "A MEAL of a DISH, as a KIND: the number of the ENTRY.")
    static void serveTheFirstAndTheThirtieth(Bench b) {
        b.due("the first", 0, Bench::fresh, x -> x.serve(0, 20));
        b.due("the last dish as the last kind", 0, Bench::fresh, x -> x.serve(5, LAST_DISH));
        b.due("the thirtieth", 29, x -> Bench.fill(x, 2, 20, 29), x -> x.serve(0, 20));
    }

    @Words(promise = 23, say = "BEYOND: kind, dish.")
    static void serveNoSuchKind(Bench b) {
        for (int kind : Bench.NO_KINDS) {
            b.refuses("serve(" + kind + ", 80)", Bench.BEYOND, x -> x.serve(kind, 80));
        }
    }

    @Words(promise = 23, say = "BEYOND: kind, dish.")
    static void serveNoDish(Bench b) {
        for (int dish : Bench.NO_DISHES) {
            b.refuses("serve(0, " + dish + ")", Bench.BEYOND, x -> x.serve(0, dish));
            b.refuses("serve(2, " + dish + ")", Bench.BEYOND, x -> x.serve(2, dish));
        }
    }

    @Words(promise = 23, say = "STATE: it can't be")
    static void serveWhatCannotBe(Bench b) {
        for (int kind = 0; kind < 6; kind++) {
            int k = kind;
            b.refuses("no store, kind " + k, Bench.STATE, Bench::noStores, x -> x.serve(k, 20));
            b.refuses("one of three things is gone, kind " + k, Bench.STATE, x -> x.store(2, 0), x -> x.serve(k, 20 * 7));
        }
        b.due("one is left", 0, withStores(1), x -> x.serve(0, 20));
        b.refuses("none is left", Bench.STATE, both(withStores(1), x -> x.serve(0, 20)), x -> x.serve(0, 21));
    }

    @Words(promise = 23, say = "or isn't NEW (unless the KIND is 2)")
    static void serveWhatIsNotNew(Bench b) {
        for (int kind = 0; kind < 6; kind++) {
            int k = kind;
            if (k == Bench.GUEST) {
                b.due("for a guest", 1, x -> x.enter(0, 20), x -> x.serve(k, 20));
                b.due("for a guest, nothing being new", 8, Bench::allBarred, x -> x.serve(k, 20));
            } else {
                b.refuses("kind " + k, Bench.STATE, x -> x.enter(0, 20), x -> x.serve(k, 20));
            }
        }
    }

    @Words(promise = 23, say = "or DAY is 9999")
    static void serveOnTheLastDay(Bench b) {
        for (int kind = 0; kind < 6; kind++) {
            int k = kind;
            b.refuses("kind " + k, Bench.STATE, onDay(9999), x -> x.serve(k, 20));
            b.due("a day ahead, kind " + k, 0, onDay(9998), x -> x.serve(k, 20));
        }
    }

    @Words(promise = 23, say = "FULL.")
    static void serveA31st(Bench b) {
        for (int kind = 0; kind < 6; kind++) {
            int k = kind;
            b.refuses("kind " + k, Bench.FULL, Bench::full, x -> x.serve(k, 20));
        }
    }

    @Words(promise = 23, say = "BEYOND: kind, dish. STATE")
    static void serveAsksBeyondAheadOfState(Bench b) {
        b.refuses("kind, though nothing can be", Bench.BEYOND, Bench::noStores, x -> x.serve(6, 20));
        b.refuses("dish, though nothing can be", Bench.BEYOND, Bench::noStores, x -> x.serve(0, 19));
        b.refuses("kind, on the last day", Bench.BEYOND, onDay(9999), x -> x.serve(-1, 20));
        b.refuses("dish, on the last day", Bench.BEYOND, onDay(9999), x -> x.serve(0, 4500));
        b.refuses("kind, the book full", Bench.BEYOND, Bench::full, x -> x.serve(6, 20));
        b.refuses("dish, the book full", Bench.BEYOND, Bench::full, x -> x.serve(0, 19));
    }

    @Words(promise = 23, say = "or DAY is 9999. FULL.")
    static void serveAsksStateAheadOfFull(Bench b) {
        b.refuses("it can't be", Bench.STATE, both(Bench::full, x -> x.store(0, 0)), x -> x.serve(2, 20));
        b.refuses("it isn't new", Bench.STATE, x -> Bench.fill(x, 0, 20, 30), x -> x.serve(0, 20));
        b.refuses("the last day", Bench.STATE, both(Bench::full, onDay(9999)), x -> x.serve(0, 20));
        b.refuses("not new, but for a guest", Bench.FULL, x -> Bench.fill(x, 0, 20, 30), x -> x.serve(2, 20));
    }

    // ---- promise 24

    @Words(promise = 24, say = "n MEALS (1 to 30), each of BEST, as a KIND, go")
    static void oneMealAndThirty(Bench b) {
        NewDishes one = new NewDishes();
        b.due("one", 1, one.meals(0, 1));
        b.due("no more than one came", 1, one.now(1));
        b.due("nor went a day more", 1, one.now(0));
        b.due("nor more of the stores", 39, one.now(3));
        NewDishes x = new NewDishes();
        b.due("thirty", 30, x.meals(5, 30));
        b.due("entries", 30, x.now(1));
        b.due("day", 30, x.now(0));
        b.due("stores", 10, x.now(3));
        b.due("the first", 20, x.entryOf(0, 1));
        b.due("the fifth", 36, x.entryOf(4, 1));
        b.due("the sixth", 40, x.entryOf(5, 1));
        b.due("the last", 20 * 32 + 16, x.entryOf(29, 1));
        b.due("its day", 29, x.entryOf(29, 2));
        b.due("its kind", 5, x.entryOf(29, 0));
    }

    @Words(promise = 24, say = "as long as there is one")
    static void mealsTillThereIsNone(Bench b) {
        b.keeps("nothing can be", 0, Bench::noStores, x -> x.meals(0, 30));
        b.keeps("nothing is new", 0, Bench::allBarred, x -> x.meals(0, 30));
        b.keeps("nor is it for guests", 0, Bench::allBarred, x -> x.meals(2, 30));
        NewDishes x = Bench.made(withStores(0, 2));
        b.due("two are left", 2, x.meals(0, 30));
        b.due("entries", 2, x.now(1));
        b.due("day", 2, x.now(0));
        b.due("stores", 0, x.now(3));
    }

    @Words(promise = 24, say = "and THE BOOK isn't full")
    static void mealsTillTheBookIsFull(Bench b) {
        b.keeps("a full book", 0, Bench::full, x -> x.meals(0, 1));
        NewDishes x = Bench.made(y -> Bench.fill(y, 2, 20, 29));
        b.due("room for one", 1, x.meals(0, 30));
        b.due("entries", 30, x.now(1));
        b.due("day", 1, x.now(0));
        b.due("stores", 39, x.now(3));
    }

    @Words(promise = 24, say = "n MEALS (1 to 30)")
    static void noMealOrTooMany(Bench b) {
        for (int n : new int[] {0, -1, 31, 32, 256, 65536 + 1, Bench.MIN, Bench.MIN + 1, Bench.MAX}) {
            b.refuses("meals(0, " + n + ")", Bench.BEYOND, x -> x.meals(0, n));
        }
    }

    @Words(promise = 24, say = "BEYOND.")
    static void mealsOfNoSuchKind(Bench b) {
        for (int kind : Bench.NO_KINDS) {
            b.refuses("meals(" + kind + ", 1)", Bench.BEYOND, x -> x.meals(kind, 1));
        }
    }

    @Words(promise = 24, say = "STATE: DAY would be above 9999.")
    static void mealsUpToTheLastDay(Bench b) {
        b.due("one to the last day", 1, onDay(9998), x -> x.meals(0, 1));
        b.due("thirty to the last day", 30, onDay(9969), x -> x.meals(0, 30));
        b.due("the last day", 9999, both(onDay(9969), x -> x.meals(0, 30)), x -> x.now(0));
        b.refuses("two, a day ahead of it", Bench.STATE, onDay(9998), x -> x.meals(0, 2));
        b.refuses("thirty, one too many", Bench.STATE, onDay(9970), x -> x.meals(0, 30));
        b.refuses("one, on the last day", Bench.STATE, onDay(9999), x -> x.meals(0, 1));
        b.refuses("one for a guest, on the last day", Bench.STATE, onDay(9999), x -> x.meals(2, 1));
    }

    @Words(promise = 24, say = "BEYOND. STATE")
    static void mealsAskBeyondAheadOfState(Bench b) {
        b.refuses("kind", Bench.BEYOND, onDay(9999), x -> x.meals(6, 1));
        b.refuses("none", Bench.BEYOND, onDay(9999), x -> x.meals(0, 0));
        b.refuses("31", Bench.BEYOND, onDay(9999), x -> x.meals(0, 31));
        b.refuses("most", Bench.BEYOND, onDay(9999), x -> x.meals(0, Bench.MAX));
    }

    // ---- promise 25

    @Words(promise = 25, say = "The DISH of the n-th MEAL (1 to 30) ON, as a KIND")
    static void onTheFirstAndTheThirtiethMeal(Bench b) {
        b.keeps("the first", 20, Bench::fresh, x -> x.on(0, 1));
        b.keeps("the fifth", 24, Bench::fresh, x -> x.on(0, 5));
        b.keeps("the sixth", 40, Bench::fresh, x -> x.on(0, 6));
        b.keeps("the thirtieth", 20 * 32 + 4, Bench::fresh, x -> x.on(0, 30));
    }

    @Words(promise = 25, say = "(THE BOOK has room for all)")
    static void onWithAFullBook(Bench b) {
        b.keeps("the first", 20, Bench::full, x -> x.on(0, 1));
        b.keeps("the thirtieth", 20 * 32 + 4, Bench::full, x -> x.on(0, 30));
    }

    @Words(promise = 25, say = "BEYOND.")
    static void onNoSuchKind(Bench b) {
        for (int kind : Bench.NO_KINDS) {
            b.refuses("on(" + kind + ", 1)", Bench.BEYOND, x -> x.on(kind, 1));
        }
    }

    @Words(promise = 25, say = "the n-th MEAL (1 to 30)")
    static void onNoMealOrTooMany(Bench b) {
        for (int n : new int[] {0, -1, 31, 32, 256, 65536 + 1, Bench.MIN, Bench.MIN + 1, Bench.MAX}) {
            b.refuses("on(0, " + n + ")", Bench.BEYOND, x -> x.on(0, n));
        }
    }

    @Words(promise = 25, say = "NONE: there are fewer.")
    static void onFewerMeals(Bench b) {
        b.refuses("nothing can be", Bench.NONE, Bench::noStores, x -> x.on(0, 1));
        b.refuses("nothing is new", Bench.NONE, Bench::allBarred, x -> x.on(2, 1));
        b.keeps("the last there is", 21, withStores(2), x -> x.on(0, 2));
        b.refuses("one more", Bench.NONE, withStores(2), x -> x.on(0, 3));
        b.keeps("the last feast", 20 * 128, Bench::fresh, x -> x.on(4, 8));
        b.refuses("one feast more", Bench.NONE, Bench::fresh, x -> x.on(4, 9));
    }

    @Words(promise = 25, say = "BEYOND. NONE")
    static void onAsksBeyondAheadOfNone(Bench b) {
        b.refuses("kind", Bench.BEYOND, Bench::noStores, x -> x.on(6, 1));
        b.refuses("none", Bench.BEYOND, Bench::noStores, x -> x.on(0, 0));
        b.refuses("31", Bench.BEYOND, Bench::noStores, x -> x.on(0, 31));
    }

    // ---- promise 26

    @Words(promise = 26, say = "LASTS, as a KIND (THE BOOK has room for all).")
    static void lastsWithAFullBook(Bench b) {
        b.keeps("a full book", 40, Bench::full, x -> x.lasts(0));
        b.keeps("60 meals, a full book", 60, both(Bench::full, withStores(20, 20, 21)), x -> x.lasts(2));
        b.keeps("nothing left", 0, Bench::noStores, x -> x.lasts(2));
        b.keeps("nothing new", 0, Bench::allBarred, x -> x.lasts(2));
        b.keeps("feasts", 8, Bench::full, x -> x.lasts(4));
    }

    @Words(promise = 26, say = "BEYOND.")
    static void lastsOfNoSuchKind(Bench b) {
        for (int kind : Bench.NO_KINDS) {
            b.refuses("lasts(" + kind + ")", Bench.BEYOND, x -> x.lasts(kind));
        }
    }

    // ---- promise 27

    @Words(promise = 27, say = "The THING of which one more in STORE makes LASTS (as a KIND) most (more than now)")
    static void buyWhatIsOfUse(Bench b) {
        b.keeps("the last thing", 7, x -> {
            Bench.noStores(x);
            for (int thing = 0; thing < 7; thing++) {
                x.enter(4, 20 << thing);
            }
        }, x -> x.buy(0));
        b.keeps("from 59 to 60", 0, withStores(19, 20, 20), x -> x.buy(0));
        b.keeps("what is there in plenty, for its manners", 1, withStores(99), x -> x.buy(0));
    }

    @Words(promise = 27, say = "of several the least")
    static void buyOfSeveralTheLeast(Bench b) {
        b.keeps("all alike", 0, Bench::noStores, x -> x.buy(0));
        b.keeps("the first is of no use", 1, both(Bench::noStores, x -> x.enter(4, 20)), x -> x.buy(0));
    }

    @Words(promise = 27, say = "NONE.")
    static void buyNothing(Bench b) {
        b.refuses("it lasts 60 already", Bench.NONE, withStores(20, 20, 20), x -> x.buy(0));
        b.refuses("stores are as large as can be", Bench.NONE, withStores(99, 99, 99, 99, 99, 99, 99, 99), x -> x.buy(0));
        b.refuses("nothing is new", Bench.NONE, Bench::allBarred, x -> x.buy(0));
        b.refuses("feasts take one of each", Bench.NONE, Bench::fresh, x -> x.buy(4));
    }

    @Words(promise = 27, say = "BEYOND.")
    static void buyForNoSuchKind(Bench b) {
        for (int kind : Bench.NO_KINDS) {
            b.refuses("buy(" + kind + ")", Bench.BEYOND, x -> x.buy(kind));
            b.refuses("buy(" + kind + ") ahead of NONE", Bench.BEYOND, Bench::allBarred, x -> x.buy(kind));
        }
    }

    // ---- promise 28

    @Words(promise = 28, say = "BEYOND.")
    static void stepsFromOrToNoDish(Bench b) {
        for (int dish : Bench.NO_DISHES) {
            b.refuses("steps(" + dish + ", 20)", Bench.BEYOND, x -> x.steps(dish, 20));
            b.refuses("steps(20, " + dish + ")", Bench.BEYOND, x -> x.steps(20, dish));
            b.refuses("steps(" + dish + ", " + dish + ")", Bench.BEYOND, x -> x.steps(dish, dish));
            b.refuses("ahead of NONE", Bench.BEYOND, Bench::noStores, x -> x.steps(dish, 20));
        }
    }

    @Words(promise = 28, say = "NONE: no way (also if the last one can't be, or isn't NEW")
    static void stepsWithoutAWay(Bench b) {
        b.refuses("the last can't be", Bench.NONE, x -> x.store(1, 0), x -> x.steps(20, 60));
        b.refuses("the last isn't new", Bench.NONE, x -> x.enter(3, 60), x -> x.steps(20, 60));
        b.refuses("all between were had", Bench.NONE, x -> {
            Bench.stores(x, 1, 1, 0, 0, 0, 0, 0, 0);
            x.edict(0, false);
            x.edict(1, false);
            x.enter(0, 60);
        }, x -> x.steps(20, 40));
        b.refuses("nothing can be", Bench.NONE, Bench::noStores, x -> x.steps(20, 21));
    }

    @Words(promise = 28, say = "0 from a DISH to itself")
    static void noStepsFromADishToItself(Bench b) {
        b.keeps("the first", 0, Bench::fresh, x -> x.steps(20, 20));
        b.keeps("the last", 0, Bench::fresh, x -> x.steps(LAST_DISH, LAST_DISH));
        b.keeps("though it can't be", 0, Bench::noStores, x -> x.steps(20, 20));
        b.keeps("though it isn't new", 0, Bench::allBarred, x -> x.steps(20, 20));
    }

    @Words(promise = 28, say = "STEPS.")
    static void stepsGoTheLongWayRound(Bench b) {
        // Things 0 and 1 together are left in ways 2 and 4, thing 0 alone in ways 0 and 1: so they don't meet.
        Bench.State maze = x -> {
            Bench.stores(x, 1, 1, 0, 0, 0, 0, 0, 0);
            x.edict(0, false);
            for (int way : new int[] {0, 1, 3}) {
                x.enter(0, 20 * 3 + 4 * way);
            }
            for (int way : new int[] {2, 3, 4}) {
                x.enter(0, 20 + 4 * way);
            }
        };
        b.refuses("shut in", Bench.NONE, maze, x -> x.steps(20, 40));
        b.keeps("a way out", 4, both(maze, x -> x.turn(5, 2)), x -> x.steps(20, 40));
    }

    @Words(promise = 28, say = "STEPS.")
    static void stepsToTheOnlyOneLeftOfASet(Bench b) {
        for (int left : new int[] {0, 19}) {
            Bench.State one = x -> {
                for (int manner = 0; manner < 20; manner++) {
                    if (manner != left) {
                        x.enter(3, 20 + manner);
                    }
                }
            };
            b.keeps("to manner " + left, 1, one, x -> x.steps(60 + left, 20 + left));
            b.keeps("in another way, with another sauce, to " + left, 3, one, x -> x.steps(60 + 9, 20 + left));
        }
    }

    @Words(promise = 28, say = "STEPS.")
    static void stepsOneBehindTheOther(Bench b) {
        NewDishes x = new NewDishes();
        b.due("all", 1840, x.within(20, 12));
        b.due("within none of another", 1, x.within(40, 0));
        b.due("within one of another", 15, x.within(80, 1));
        b.due("a way and a sauce", 2, x.steps(39, 20));
        b.due("a sauce", 1, x.steps(20, 23));
        Bench.noStores(x);
        b.due("nothing can be any more", Bench.NONE, x.steps(20, 23));
        b.due("within twelve of itself", 1, x.within(20, 12));
    }

    // ---- promise 29

    @Words(promise = 29, say = "in n STEPS (0 to 12) or fewer (itself, too)")
    static void withinNoneToTwelveSteps(Bench b) {
        b.keeps("none: itself", 1, Bench::fresh, x -> x.within(20, 0));
        b.keeps("one", 15, Bench::fresh, x -> x.within(20, 1));
        b.keeps("twelve: all", 1840, Bench::fresh, x -> x.within(LAST_DISH, 12));
        b.keeps("itself, though it can't be", 1, Bench::noStores, x -> x.within(20, 12));
        b.keeps("itself, though it isn't new", 1, Bench::allBarred, x -> x.within(20, 0));
        b.keeps("itself once, though it isn't new", 8, both(withStores(1), x -> x.enter(3, 20)), x -> x.within(20, 1));
        b.keeps("all but one", 1839, x -> x.enter(3, 20), x -> x.within(LAST_DISH, 12));
    }

    @Words(promise = 29, say = "How many DISHES can be come to from a DISH in n STEPS")
    static void withinEachNumberOfSteps(Bench b) {
        // From {0, 1, 2}, raw, first sauce: by how many changes each dish is near it.
        int[] by = new int[13];
        for (int set = 1; set < 256; set++) {
            if (Integer.bitCount(set) <= 3) {
                // A thing must go ahead of one that comes, which is always so with three things.
                int things = Integer.bitCount(set ^ 7);
                by[things]++;
                by[things + 1] += 4 + 3;
                by[things + 2] += 12;
            }
        }
        int sum = 0;
        for (int n = 0; n <= 12; n++) {
            sum += by[n];
            int most = n;
            b.keeps("within " + n, sum, Bench::fresh, x -> x.within(20 * 7, most));
        }
    }

    @Words(promise = 29, say = "BEYOND.")
    static void withinOfNoDish(Bench b) {
        for (int dish : Bench.NO_DISHES) {
            b.refuses("within(" + dish + ", 1)", Bench.BEYOND, x -> x.within(dish, 1));
        }
    }

    @Words(promise = 29, say = "n STEPS (0 to 12)")
    static void withinTooFewOrTooManySteps(Bench b) {
        for (int n : new int[] {-1, 13, 14, 256, 65536, Bench.MIN, Bench.MAX}) {
            b.refuses("within(20, " + n + ")", Bench.BEYOND, x -> x.within(20, n));
        }
    }

    // ---- promise 30

    @Words(promise = 30, say = "that is come to from a DISH in n STEPS (1 to 12) or fewer")
    static void walkOneToTwelveSteps(Bench b) {
        Bench.State liked = x -> {
            x.like(0, 7, 9);
            x.like(0, 6, 8);
            x.like(1, 4, 7);
            x.like(2, 3, 6);
            x.like(0, 0, -1);
        };
        int[] want = {20 * 129, 20 * 193, 20 * 193 + 16, 20 * 193 + 19, 20 * 192 + 19, 20 * 192 + 19};
        for (int n = 1; n <= 6; n++) {
            int most = n;
            b.keeps("walk of " + n, want[n - 1], liked, x -> x.walk(20, most));
        }
        b.keeps("walk of twelve", 20 * 192 + 19, liked, x -> x.walk(20, 12));
        b.keeps("no step is fewer than one", 20, Bench::fresh, x -> x.walk(20, 1));
        b.keeps("no step is fewer than twelve", 20 * 128 + 19, x -> {
            Bench.stores(x, 0, 0, 0, 0, 0, 0, 0, 1);
            x.like(1, 4, 9);
            x.like(2, 3, 9);
        }, x -> x.walk(20 * 128 + 19, 12));
    }

    @Words(promise = 30, say = "The DISH (that CAN BE and is NEW) with the greatest LIKING")
    static void walkToWhatCanBeAndIsNewAlone(Bench b) {
        Bench.State liked = x -> x.like(2, 3, 9);
        b.keeps("what was had", 23 + 4, both(liked, x -> x.enter(3, 23)), x -> x.walk(20, 2));
        b.keeps("the first was had", 24, both(x -> x.like(2, 0, 9), x -> x.enter(3, 20)), x -> x.walk(20, 1));
        b.keeps("the first can't be", 40, x -> {
            x.store(0, 0);
            x.like(0, 0, 9);
        }, x -> x.walk(60, 1));
    }

    @Words(promise = 30, say = "of several the least")
    static void walkOfSeveralToTheLeast(Bench b) {
        b.keeps("a sauce ahead of a way", 21, x -> x.enter(3, 20), x -> x.walk(20, 1));
        b.keeps("below where it sets out", 20 * 2, x -> x.enter(3, 60 + 19), x -> x.walk(20 * 6, 1));
        b.keeps("a set ahead of a manner", 39, x -> x.enter(3, 60 + 19), x -> x.walk(60 + 19, 1));
    }

    @Words(promise = 30, say = "NONE.")
    static void walkToNone(Bench b) {
        b.refuses("nothing can be", Bench.NONE, Bench::noStores, x -> x.walk(20, 12));
        b.refuses("nothing is new", Bench.NONE, Bench::allBarred, x -> x.walk(20, 12));
        b.refuses("too far", Bench.NONE, withStores(0, 1), x -> x.walk(20, 1));
        b.refuses("no way by what can't be", Bench.NONE, withStores(0, 1), x -> x.walk(20, 12));
        b.keeps("from what can't be to its part", 40, withStores(0, 1), x -> x.walk(60, 1));
    }

    @Words(promise = 30, say = "BEYOND.")
    static void walkFromNoDish(Bench b) {
        for (int dish : Bench.NO_DISHES) {
            b.refuses("walk(" + dish + ", 1)", Bench.BEYOND, x -> x.walk(dish, 1));
            b.refuses("walk(" + dish + ", 1) ahead of NONE", Bench.BEYOND, Bench::noStores, x -> x.walk(dish, 1));
        }
    }

    @Words(promise = 30, say = "n STEPS (1 to 12)")
    static void walkTooFewOrTooManySteps(Bench b) {
        for (int n : new int[] {0, -1, 13, 14, 256, 65536 + 1, Bench.MIN, Bench.MIN + 1, Bench.MAX}) {
            b.refuses("walk(20, " + n + ")", Bench.BEYOND, x -> x.walk(20, n));
            b.refuses("walk(20, " + n + ") ahead of NONE", Bench.BEYOND, Bench::noStores, x -> x.walk(20, n));
        }
    }

    // ---- promise 31

    @Words(promise = 31, say = "What 0 DAY, 1 THE BOOK's ENTRIES, 2 those of GUESTS, 3 STORES together.")
    static void nowFromNoneToMost(Bench b) {
        b.keeps("day 0", 0, Bench::fresh, x -> x.now(0));
        b.keeps("day 9999", 9999, onDay(9999), x -> x.now(0));
        b.keeps("no entries", 0, Bench::fresh, x -> x.now(1));
        b.keeps("all entries", 30, Bench::full, x -> x.now(1));
        b.keeps("all are guests", 30, Bench::full, x -> x.now(2));
        b.keeps("no guests", 0, x -> Bench.fill(x, 3, 20, 30), x -> x.now(2));
        b.keeps("no guests but those struck out", 0, x -> {
            x.enter(2, 20);
            x.strike();
        }, x -> x.now(2));
        b.keeps("no stores", 0, Bench::noStores, x -> x.now(3));
        b.keeps("all stores", 792, withStores(99, 99, 99, 99, 99, 99, 99, 99), x -> x.now(3));
    }

    @Words(promise = 31, say = "BEYOND.")
    static void nowOfNoSuchWhat(Bench b) {
        for (int what : Bench.NOT_0_TO_3) {
            b.refuses("now(" + what + ")", Bench.BEYOND, x -> x.now(what));
        }
    }
}
