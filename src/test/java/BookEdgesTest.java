import java.io.IOException;

/** The boundary cases of the book: the terms of entries, and promises 12 to 21. */
public final class BookEdgesTest {
    private static final int LAST_DISH = 4499;
    /** Things 0 and 1, way 2, sauce 1. */
    private static final int HAD = 20 * 3 + 4 * 2 + 1;
    private static final int OTHER_WAY = 4;
    private static final int OTHER_SAUCE = 1;
    private static final int PART = HAD - 20 * 2;
    private static final int WHOLE = HAD + 20 * 4;
    private static final int MEETING = HAD + 20 * 2;
    private static final int APART = HAD + 20 * 45;

    public static void main(String[] args) throws IOException {
        Bench.run(BookEdgesTest.class);
    }

    // ---- the terms

    @Words(promise = 0, say = "ENTRIES of THE BOOK, 0, 1, .. (at most 30)")
    static void thirtyEntriesAndNoMore(Bench b) {
        NewDishes x = new NewDishes();
        for (int e = 0; e < 30; e++) {
            b.due("entry " + e, e, x.enter(0, 20));
        }
        b.due("a 31st", Bench.FULL, x.enter(0, 20));
        b.due("entries", 30, x.now(1));
    }

    @Words(promise = 0, say = "are of KINDS: 0 ENTRY, 1 PARTED under ENTRY, 2 GUEST under ENTRY, 3 NAMED under ENTRY, "
        + "4 FEAST under PARTED, 5 SECRET under NAMED")
    static void kindsAreUnderOneAnother(Bench b) {
        int[][] under = {{0}, {0, 1}, {0, 2}, {0, 3}, {0, 1, 4}, {0, 3, 5}};
        for (int kind = 0; kind < 6; kind++) {
            for (int as = 0; as < 6; as++) {
                boolean is = false;
                for (int k : under[kind]) {
                    is |= k == as;
                }
                NewDishes x = new NewDishes();
                x.enter(kind, 20);
                b.due("kind " + kind + " as " + as, is ? 20 : Bench.KIND, x.as(0, as));
            }
        }
    }

    @Words(promise = 0, say = "each of a DISH, on a DAY (0 to 9999)")
    static void entriesOnTheFirstAndTheLastDay(Bench b) {
        b.due("day 0", 0, x -> x.enter(0, 20), x -> x.entryOf(0, 2));
        b.due("day 9999", 9999, x -> {
            Bench.tell(x, "day 9999");
            x.enter(0, 20);
        }, x -> x.entryOf(0, 2));
    }

    @Words(promise = 0, say = "ENTRY: the same set, the same WAY (if WAYS matter), the same SAUCE (if SAUCES matter).")
    static void whatAnEntryBars(Bench b) {
        for (int edicts = 0; edicts < 4; edicts++) {
            boolean sauces = (edicts & 1) != 0;
            boolean ways = (edicts & 2) != 0;
            checkSet(b, 0, edicts, HAD, true, !ways, !sauces, !ways && !sauces);
            for (int set : new int[] {PART, WHOLE, MEETING, APART}) {
                checkSet(b, 0, edicts, set, false, false, false, false);
            }
        }
    }

    @Words(promise = 0, say = "PARTED: as ENTRY, or the set of one is part of the other's, WAY and SAUCE asked as for ENTRY.")
    static void whatAPartedEntryBars(Bench b) {
        for (int edicts = 0; edicts < 4; edicts++) {
            boolean sauces = (edicts & 1) != 0;
            boolean ways = (edicts & 2) != 0;
            for (int set : new int[] {HAD, PART, WHOLE}) {
                checkSet(b, 1, edicts, set, true, !ways, !sauces, !ways && !sauces);
            }
            for (int set : new int[] {MEETING, APART}) {
                checkSet(b, 1, edicts, set, false, false, false, false);
            }
        }
    }

    @Words(promise = 0, say = "GUEST: never.")
    static void aGuestsEntryBarsNothing(Bench b) {
        for (int edicts = 0; edicts < 4; edicts++) {
            for (int set : new int[] {HAD, PART, WHOLE, MEETING, APART}) {
                checkSet(b, 2, edicts, set, false, false, false, false);
            }
        }
    }

    @Words(promise = 0, say = "NAMED: the same set, WAY and SAUCE, whatever EDICTS.")
    static void whatANamedEntryBars(Bench b) {
        for (int edicts = 0; edicts < 4; edicts++) {
            checkSet(b, 3, edicts, HAD, true, false, false, false);
            for (int set : new int[] {PART, WHOLE, MEETING, APART}) {
                checkSet(b, 3, edicts, set, false, false, false, false);
            }
        }
    }

    @Words(promise = 0, say = "FEAST: as PARTED, whatever WAYS and SAUCES.")
    static void whatAFeastBars(Bench b) {
        for (int edicts = 0; edicts < 4; edicts++) {
            for (int set : new int[] {HAD, PART, WHOLE}) {
                checkSet(b, 4, edicts, set, true, true, true, true);
            }
            for (int set : new int[] {MEETING, APART}) {
                checkSet(b, 4, edicts, set, false, false, false, false);
            }
        }
    }

    @Words(promise = 0, say = "SECRET: as NAMED, but the SAUCE alone may be another one.")
    static void whatASecretEntryBars(Bench b) {
        for (int edicts = 0; edicts < 4; edicts++) {
            checkSet(b, 5, edicts, HAD, true, false, true, false);
            for (int set : new int[] {PART, WHOLE, MEETING, APART}) {
                checkSet(b, 5, edicts, set, false, false, false, false);
            }
        }
    }

    /** Whether an entry of HAD bars a dish done as it was, in another way, with another sauce, with both. */
    private static void checkSet(Bench b, int kind, int edicts, int dish, boolean same, boolean way, boolean sauce, boolean both) {
        NewDishes x = new NewDishes();
        x.edict(0, (edicts & 1) != 0);
        x.edict(1, (edicts & 2) != 0);
        x.enter(kind, HAD);
        String what = "kind " + kind + ", edicts " + edicts + ", dish " + dish;
        b.due(what, same ? 1 : 0, x.bars(0, dish));
        b.due(what + ", way", way ? 1 : 0, x.bars(0, dish + OTHER_WAY));
        b.due(what + ", sauce", sauce ? 1 : 0, x.bars(0, dish + OTHER_SAUCE));
        b.due(what + ", both", both ? 1 : 0, x.bars(0, dish + OTHER_WAY + OTHER_SAUCE));
    }

    @Words(promise = 0, say = "BARS: whether an ENTRY counts as the same as a DISH")
    static void howManyDishesEachKindBars(Bench b) {
        // With sets of one, two and three things: itself alone, or with all that are parts either way.
        int[] dishes = {20, 20 * 3, 20 * 7};
        int[] parts = {29, 9, 7};
        for (int i = 0; i < 3; i++) {
            int[] both = {1, parts[i], 0, 1, 20 * parts[i], 4};
            int[] none = {20, 20 * parts[i], 0, 1, 20 * parts[i], 4};
            for (int kind = 0; kind < 6; kind++) {
                int k = kind;
                int dish = dishes[i];
                b.due("kind " + k + " of " + dish, both[k], x -> x.enter(k, dish), x -> x.entryOf(0, 3));
                b.due("kind " + k + " of " + dish + " without edicts", none[k], x -> {
                    x.enter(k, dish);
                    x.edict(0, false);
                    x.edict(1, false);
                }, x -> x.entryOf(0, 3));
            }
        }
    }

    // ---- promise 12

    @Words(promise = 12, say = "An ENTRY comes into THE BOOK on DAY, NEW or not (STORES and DAY stay): its number.")
    static void enterWhatIsNotNewAndCannotBe(Bench b) {
        NewDishes x = Bench.made(Bench::noStores);
        b.due("first", 0, x.enter(0, 20));
        b.due("not new", 1, x.enter(0, 20));
        b.due("stores stay", 0, x.now(3));
        b.due("day stays", 0, x.now(0));
    }

    @Words(promise = 12, say = "on DAY, NEW or not (STORES and DAY stay)")
    static void enterOnTheLastDay(Bench b) {
        NewDishes x = new NewDishes();
        Bench.tell(x, "day 9999");
        b.due("number", 0, x.enter(0, 20));
        b.due("day stays", 9999, x.now(0));
        b.due("its day", 9999, x.entryOf(0, 2));
        b.due("stores stay", 40, x.now(3));
    }

    @Words(promise = 12, say = "An ENTRY comes into THE BOOK")
    static void enterTheLastKindAndDish(Bench b) {
        NewDishes x = new NewDishes();
        b.due("number", 0, x.enter(5, LAST_DISH));
        b.due("kind", 5, x.entryOf(0, 0));
        b.due("dish", LAST_DISH, x.entryOf(0, 1));
    }

    @Words(promise = 12, say = "BEYOND: kind, dish.")
    static void enterNoSuchKind(Bench b) {
        for (int kind : Bench.NO_KINDS) {
            b.refuses("enter(" + kind + ", 20)", Bench.BEYOND, x -> x.enter(kind, 20));
        }
    }

    @Words(promise = 12, say = "BEYOND: kind, dish.")
    static void enterNoDish(Bench b) {
        for (int dish : Bench.NO_DISHES) {
            b.refuses("enter(0, " + dish + ")", Bench.BEYOND, x -> x.enter(0, dish));
        }
    }

    @Words(promise = 12, say = "FULL.")
    static void enterA31st(Bench b) {
        for (int kind = 0; kind < 6; kind++) {
            int k = kind;
            b.refuses("a 31st of kind " + k, Bench.FULL, Bench::full, x -> x.enter(k, 20));
        }
        b.due("the 30th", 29, x -> Bench.fill(x, 0, 20, 29), x -> x.enter(0, 20));
    }

    @Words(promise = 12, say = "BEYOND: kind, dish. FULL.")
    static void enterAsksBeyondAheadOfFull(Bench b) {
        b.refuses("kind", Bench.BEYOND, Bench::full, x -> x.enter(6, 20));
        b.refuses("dish", Bench.BEYOND, Bench::full, x -> x.enter(0, 19));
    }

    // ---- promise 13

    @Words(promise = 13, say = "what 0 KIND, 1 the DISH, 2 DAY, 3 how many DISHES it BARS.")
    static void entryOfTheFirstAndTheLast(Bench b) {
        Bench.State book = x -> {
            x.enter(4, 20);
            Bench.fill(x, 2, 40, 28);
            Bench.tell(x, "day 9999");
            x.enter(5, LAST_DISH);
        };
        int[] first = {4, 20, 0, 580};
        int[] last = {5, LAST_DISH, 9999, 4};
        for (int what = 0; what < 4; what++) {
            int w = what;
            b.keeps("entryOf(0, " + w + ")", first[w], book, x -> x.entryOf(0, w));
            b.keeps("entryOf(29, " + w + ")", last[w], book, x -> x.entryOf(29, w));
        }
    }

    @Words(promise = 13, say = "3 how many DISHES it BARS")
    static void entryBarsWhateverOthersBar(Bench b) {
        b.due("two the same", 1, x -> Bench.fill(x, 0, 20, 2), x -> x.entryOf(1, 3));
        b.due("what can't be, too", 580, x -> {
            Bench.noStores(x);
            x.enter(4, 20);
        }, x -> x.entryOf(0, 3));
    }

    @Words(promise = 13, say = "BEYOND.")
    static void entryOfNoEntry(Bench b) {
        for (int what = 0; what < 4; what++) {
            int w = what;
            for (int entry : new int[] {-1, 7, 8, 29, 30, 256, Bench.MIN, Bench.MAX}) {
                b.refuses("entryOf(" + entry + ", " + w + ")", Bench.BEYOND, x -> x.entryOf(entry, w));
            }
            b.refuses("in an empty book", Bench.BEYOND, Bench::fresh, x -> x.entryOf(0, w));
            b.refuses("in a full book", Bench.BEYOND, Bench::full, x -> x.entryOf(30, w));
        }
    }

    @Words(promise = 13, say = "BEYOND.")
    static void entryOfWhatWasStruckOut(Bench b) {
        b.refuses("the last one", Bench.BEYOND, x -> {
            Bench.fill(x, 0, 20, 2);
            x.strike();
        }, x -> x.entryOf(1, 1));
    }

    @Words(promise = 13, say = "BEYOND.")
    static void entryOfNoSuchWhat(Bench b) {
        for (int what : Bench.NOT_0_TO_3) {
            b.refuses("entryOf(0, " + what + ")", Bench.BEYOND, x -> x.entryOf(0, what));
        }
    }

    // ---- promise 14

    @Words(promise = 14, say = "An ENTRY becomes one of another KIND: what it was.")
    static void turnFromEachKindToEach(Bench b) {
        for (int from = 0; from < 6; from++) {
            for (int to = 0; to < 6; to++) {
                NewDishes x = new NewDishes();
                Bench.tell(x, "day 9");
                x.enter(from, 60);
                Bench.tell(x, "day 9999");
                b.due("turn", from, x.turn(0, to));
                b.due("kind", to, x.entryOf(0, 0));
                b.due("dish stays", 60, x.entryOf(0, 1));
                b.due("day stays", 9, x.entryOf(0, 2));
            }
        }
    }

    @Words(promise = 14, say = "An ENTRY becomes one of another KIND")
    static void turnTheLastOfAFullBook(Bench b) {
        NewDishes x = Bench.made(Bench::full);
        b.due("turn", Bench.GUEST, x.turn(29, 5));
        b.due("kind", 5, x.entryOf(29, 0));
        b.due("no other", 29, x.now(2));
    }

    @Words(promise = 14, say = "BEYOND.")
    static void turnNoEntry(Bench b) {
        for (int entry : new int[] {-1, 7, 8, 29, 30, 256, Bench.MIN, Bench.MAX}) {
            b.refuses("turn(" + entry + ", 0)", Bench.BEYOND, x -> x.turn(entry, 0));
        }
        b.refuses("in an empty book", Bench.BEYOND, Bench::fresh, x -> x.turn(0, 0));
        b.refuses("in a full book", Bench.BEYOND, Bench::full, x -> x.turn(30, 0));
    }

    @Words(promise = 14, say = "BEYOND.")
    static void turnToNoSuchKind(Bench b) {
        for (int kind : Bench.NO_KINDS) {
            b.refuses("turn(0, " + kind + ")", Bench.BEYOND, x -> x.turn(0, kind));
        }
    }

    // ---- promise 15

    @Words(promise = 15, say = "An ENTRY as one of a kind: the DISH.")
    static void asItsOwnAndTheHighestKind(Bench b) {
        for (int kind = 0; kind < 6; kind++) {
            int k = kind;
            b.keeps("as its own", LAST_DISH, x -> x.enter(k, LAST_DISH), x -> x.as(0, k));
            b.keeps("as the highest", LAST_DISH, x -> x.enter(k, LAST_DISH), x -> x.as(0, 0));
        }
        b.due("the last of a full book", 20, Bench::full, x -> x.as(29, 2));
    }

    @Words(promise = 15, say = "BEYOND: no such one, kind.")
    static void asOfNoEntry(Bench b) {
        for (int entry : new int[] {-1, 7, 8, 29, 30, 256, Bench.MIN, Bench.MAX}) {
            b.refuses("as(" + entry + ", 0)", Bench.BEYOND, x -> x.as(entry, 0));
        }
        b.refuses("in an empty book", Bench.BEYOND, Bench::fresh, x -> x.as(0, 0));
        b.refuses("in a full book", Bench.BEYOND, Bench::full, x -> x.as(30, 0));
    }

    @Words(promise = 15, say = "BEYOND: no such one, kind.")
    static void asOfNoSuchKind(Bench b) {
        for (int kind : Bench.NO_KINDS) {
            b.refuses("as(1, " + kind + ")", Bench.BEYOND, x -> x.as(1, kind));
        }
    }

    @Words(promise = 15, say = "KIND: it isn't of that kind, nor of one under it.")
    static void asOfAKindThatItIsNot(Bench b) {
        b.refuses("an entry as parted", Bench.KIND, x -> x.as(1, Bench.PARTED));
        b.refuses("a parted one as a feast", Bench.KIND, x -> x.as(2, Bench.FEAST));
        b.refuses("a guest's as named", Bench.KIND, x -> x.as(3, Bench.NAMED));
        b.refuses("a named one as secret", Bench.KIND, x -> x.as(4, Bench.SECRET));
        b.refuses("a feast as named", Bench.KIND, x -> x.as(5, Bench.NAMED));
        b.refuses("a secret one as parted", Bench.KIND, x -> x.as(6, Bench.PARTED));
        b.refuses("after a turn", Bench.KIND, x -> x.turn(x.enter(4, 20), 0), x -> x.as(0, Bench.FEAST));
    }

    @Words(promise = 15, say = "BEYOND: no such one, kind. KIND")
    static void asAsksBeyondAheadOfKind(Bench b) {
        b.refuses("no such entry", Bench.BEYOND, x -> x.as(7, Bench.PARTED));
        b.refuses("no such kind", Bench.BEYOND, x -> x.as(1, 6));
    }

    // ---- promise 16

    @Words(promise = 16, say = "The last ENTRY is struck out: its DISH.")
    static void strikeTillTheBookIsEmpty(Bench b) {
        NewDishes x = new NewDishes();
        for (int e = 0; e < 30; e++) {
            x.enter(0, 20 + e % 20);
        }
        for (int e = 29; e >= 0; e--) {
            b.due("strike", 20 + e % 20, x.strike());
            b.due("entries", e, x.now(1));
        }
        b.due("new again", 1840, x.many(1));
        b.due("no more", Bench.NONE, x.strike());
        b.due("entries", 0, x.now(1));
        b.due("the first again", 0, x.enter(0, 20));
    }

    @Words(promise = 16, say = "The last ENTRY is struck out")
    static void strikeLeavesDayAndStores(Bench b) {
        NewDishes x = new NewDishes();
        x.serve(0, 60);
        b.due("strike", 60, x.strike());
        b.due("day", 1, x.now(0));
        b.due("stores", 38, x.now(3));
    }

    @Words(promise = 16, say = "NONE: there is none.")
    static void strikeInAnEmptyBook(Bench b) {
        b.refuses("strike()", Bench.NONE, Bench::fresh, x -> x.strike());
        b.refuses("strike() once more", Bench.NONE, x -> {
            x.enter(0, 20);
            x.strike();
        }, x -> x.strike());
    }

    // ---- promises 17 and 18

    @Words(promise = 17, say = "Whether an ENTRY BARS a DISH: 1, 0.")
    static void barsByTheFirstAndTheLast(Bench b) {
        Bench.State book = x -> {
            x.enter(0, 20);
            Bench.fill(x, 2, 20, 28);
            x.enter(0, LAST_DISH);
        };
        b.keeps("the first", 1, book, x -> x.bars(0, 20));
        b.keeps("the first, another", 0, book, x -> x.bars(0, LAST_DISH));
        b.keeps("a guest's", 0, book, x -> x.bars(28, 20));
        b.keeps("the last", 1, book, x -> x.bars(29, LAST_DISH));
        b.keeps("the last, another", 0, book, x -> x.bars(29, 20));
    }

    @Words(promise = 17, say = "BEYOND.")
    static void barsOfNoEntry(Bench b) {
        for (int entry : new int[] {-1, 7, 8, 29, 30, 256, Bench.MIN, Bench.MAX}) {
            b.refuses("bars(" + entry + ", 20)", Bench.BEYOND, x -> x.bars(entry, 20));
        }
        b.refuses("in an empty book", Bench.BEYOND, Bench::fresh, x -> x.bars(0, 20));
        b.refuses("in a full book", Bench.BEYOND, Bench::full, x -> x.bars(30, 20));
    }

    @Words(promise = 17, say = "BEYOND.")
    static void barsOfNoDish(Bench b) {
        for (int dish : Bench.NO_DISHES) {
            b.refuses("bars(0, " + dish + ")", Bench.BEYOND, x -> x.bars(0, dish));
        }
    }

    @Words(promise = 18, say = "The first ENTRY that BARS a DISH.")
    static void byTheFirstOfSeveral(Bench b) {
        b.keeps("the first of all", 0, x -> Bench.fill(x, 0, 20, 30), x -> x.by(20));
        b.keeps("the last of a full book", 29, x -> {
            Bench.fill(x, 2, 20, 29);
            x.enter(0, 20);
        }, x -> x.by(20));
        b.keeps("behind a guest's", 1, x -> {
            x.enter(2, 20);
            Bench.fill(x, 3, 20, 2);
        }, x -> x.by(20));
    }

    @Words(promise = 18, say = "BEYOND.")
    static void byNothingIfNoDish(Bench b) {
        for (int dish : Bench.NO_DISHES) {
            b.refuses("by(" + dish + ")", Bench.BEYOND, x -> x.by(dish));
            b.refuses("by(" + dish + ") ahead of NONE", Bench.BEYOND, Bench::fresh, x -> x.by(dish));
        }
    }

    @Words(promise = 18, say = "NONE: it is NEW.")
    static void byNoneIfNew(Bench b) {
        b.refuses("an empty book", Bench.NONE, Bench::fresh, x -> x.by(20));
        b.refuses("guests alone", Bench.NONE, Bench::full, x -> x.by(20));
        b.refuses("another sauce", Bench.NONE, x -> x.enter(0, 20), x -> x.by(21));
        b.refuses("struck out", Bench.NONE, x -> {
            x.enter(0, 20);
            x.strike();
        }, x -> x.by(20));
    }

    // ---- promise 19

    @Words(promise = 19, say = "The first ENTRY (of no GUEST) whose DISH one ahead of it BARS: a breach.")
    static void breachOfTheSecondAndTheLast(Bench b) {
        b.keeps("the second", 1, x -> Bench.fill(x, 0, 20, 30), x -> x.breach());
        b.keeps("the last by the first", 29, x -> {
            x.enter(0, 20);
            Bench.fill(x, 2, 20, 28);
            x.enter(0, 20);
        }, x -> x.breach());
        b.keeps("the last by the one ahead", 29, x -> {
            Bench.fill(x, 2, 20, 28);
            Bench.fill(x, 0, 20, 2);
        }, x -> x.breach());
    }

    @Words(promise = 19, say = "(of no GUEST)")
    static void breachOfNoGuest(Bench b) {
        for (int kind = 0; kind < 6; kind++) {
            int k = kind;
            Bench.State book = x -> {
                x.enter(0, 20);
                x.enter(k, 20);
            };
            if (k == Bench.GUEST) {
                b.refuses("a guest's", Bench.NONE, book, x -> x.breach());
            } else {
                b.keeps("kind " + k, 1, book, x -> x.breach());
            }
        }
    }

    @Words(promise = 19, say = "whose DISH one ahead of it BARS")
    static void breachByOneAheadAlone(Bench b) {
        // A feast bars its parts, an entry of a part doesn't bar it.
        b.keeps("a part behind a feast", 1, x -> {
            x.enter(4, 60);
            x.enter(0, 20);
        }, x -> x.breach());
        b.refuses("a part ahead of a feast", Bench.NONE, x -> {
            x.enter(0, 20);
            x.enter(4, 60);
        }, x -> x.breach());
    }

    @Words(promise = 19, say = "NONE.")
    static void breachOfNone(Bench b) {
        b.refuses("an empty book", Bench.NONE, Bench::fresh, x -> x.breach());
        b.refuses("one entry", Bench.NONE, x -> x.enter(4, 20), x -> x.breach());
        b.refuses("unlike ones", Bench.NONE, x -> {
            x.enter(0, 20);
            x.enter(0, 21);
        }, x -> x.breach());
        b.refuses("a full book of guests", Bench.NONE, Bench::full, x -> x.breach());
    }

    // ---- promise 20

    @Words(promise = 20, say = "The ENTRY that alone keeps most DISHES from being NEW (that no other one BARS)")
    static void keenestCountsWhatItBarsAlone(Bench b) {
        b.keeps("the last of a full book", 29, x -> {
            Bench.fill(x, 2, 20, 29);
            x.enter(0, 20);
        }, x -> x.keenest());
        // Two feasts of the same bar nothing alone, so one dish is most.
        b.keeps("one dish is most", 2, x -> {
            Bench.fill(x, 4, 20, 2);
            x.enter(3, 40);
        }, x -> x.keenest());
        b.keeps("what can't be counts, too", 1, x -> {
            x.store(1, 0);
            x.enter(0, 20);
            x.enter(5, 40);
        }, x -> x.keenest());
    }

    @Words(promise = 20, say = "(that no other one BARS)")
    static void keenestBehindOneThatWasStruckOut(Bench b) {
        NewDishes x = new NewDishes();
        x.enter(3, 20);
        Bench.fill(x, 4, 40, 2);
        b.due("two feasts of the same", 0, x.keenest());
        x.strike();
        b.due("one of them alone", 1, x.keenest());
        x.enter(2, 40);
        b.due("a guest bars nothing", 1, x.keenest());
        x.turn(2, 4);
        b.due("two feasts of the same again", 0, x.keenest());
    }

    @Words(promise = 20, say = "of several the least")
    static void keenestOfSeveralTheLeast(Bench b) {
        b.keeps("all alike", 0, x -> {
            x.enter(3, 20);
            x.enter(0, 21);
            x.enter(0, 22);
        }, x -> x.keenest());
        b.keeps("two of three", 1, x -> {
            x.enter(0, 20);
            x.enter(5, 40);
            x.enter(5, 80);
        }, x -> x.keenest());
    }

    @Words(promise = 20, say = "NONE: there is none.")
    static void keenestOfNone(Bench b) {
        b.refuses("an empty book", Bench.NONE, Bench::fresh, x -> x.keenest());
        b.refuses("all struck out", Bench.NONE, x -> {
            x.enter(0, 20);
            x.strike();
        }, x -> x.keenest());
    }

    // ---- promise 21

    @Words(promise = 21, say = "By how many more DISHES would be NEW, were an EDICT the other way (below 0: fewer).")
    static void wouldBeMoreFewerOrAsMany(Bench b) {
        for (int edict = 0; edict < 2; edict++) {
            int e = edict;
            int others = e == 0 ? 3 : 4;
            b.keeps("an empty book", 0, Bench::fresh, x -> x.wouldBe(e));
            b.keeps("fewer", -others, x -> x.enter(0, 20), x -> x.wouldBe(e));
            b.keeps("more", others, x -> x.edict(e, x.enter(0, 20) != 0), x -> x.wouldBe(e));
            b.keeps("whatever edicts", 0, x -> x.enter(5, 20), x -> x.wouldBe(e));
            b.keeps("nothing is new anyway", 0, Bench::allBarred, x -> x.wouldBe(e));
            b.keeps("what can't be, too", -29 * others, x -> {
                Bench.noStores(x);
                x.enter(1, 20);
            }, x -> x.wouldBe(e));
        }
    }

    @Words(promise = 21, say = "BEYOND.")
    static void wouldBeOfNoSuchEdict(Bench b) {
        for (int edict : new int[] {-1, 2, 3, 32, 33, 256, Bench.MIN, Bench.MIN + 1, Bench.MAX}) {
            b.refuses("wouldBe(" + edict + ")", Bench.BEYOND, x -> x.wouldBe(edict));
        }
    }
}
