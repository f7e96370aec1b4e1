import java.io.IOException;

/** The boundary cases of sheets, images and counts: their terms, and promises 35 to 45. */
public final class SheetsEdgesTest {
    private static final int LAST_DISH = 4499;
    private static final int[] BITS = {8, 16, 64};
    private static final int[] NO_BITS = {-1, 1, 4, 7, 9, 15, 17, 32, 63, 65, 128, -8, -64, 256, 256 + 8, Bench.MIN, Bench.MAX};

    public static void main(String[] args) throws IOException {
        Bench.run(SheetsEdgesTest.class);
    }

    private static Bench.State sheetOf(int s, int bits, long... numbers) {
        return x -> {
            x.sheet(s, bits, numbers.length);
            for (int i = 0; i < numbers.length; i++) {
                x.write(s, i, numbers[i]);
            }
        };
    }

    private static Bench.State both(Bench.State one, Bench.State other) {
        return x -> {
            one.of(x);
            other.of(x);
        };
    }

    private static void holds(Bench b, String what, NewDishes x, int s, long... numbers) {
        for (int i = 0; i < numbers.length; i++) {
            b.due(what + ", number " + i, numbers[i], x.write(s, i, 0));
        }
        b.due(what + ", number " + numbers.length, Bench.BEYOND, x.write(s, numbers.length, 0));
    }

    // ---- the terms

    @Words(promise = 0, say = "SHEETS 0 to 3 are rows of at most 40 numbers of 8, 16 or 64 bits, or MISSING (at first).")
    static void sheetsAreMissingAtFirst(Bench b) {
        for (int sheet = 0; sheet < 4; sheet++) {
            int s = sheet;
            b.refuses("write, sheet " + s, Bench.MISSING, Bench::fresh, x -> x.write(s, 0, 1));
            b.refuses("lays, sheet " + s, Bench.MISSING, Bench::fresh, x -> x.lays(s));
            b.due("forty numbers, sheet " + s, 40, Bench::fresh, x -> x.sheet(s, 64, 40));
        }
    }

    // ---- promise 35

    @Words(promise = 35, say = "A sheet has n numbers, all 0, of 8, 16 or 64 bits")
    static void sheetOfNoneToFortyNumbers(Bench b) {
        for (int bits : BITS) {
            for (int n : new int[] {0, 1, 39, 40}) {
                NewDishes x = new NewDishes();
                b.due("sheet", n, x.sheet(3, bits, n));
                holds(b, bits + " bits", x, 3, new long[n]);
            }
        }
    }

    @Words(promise = 35, say = "A sheet has n numbers, all 0")
    static void sheetAnewIsAll0(Bench b) {
        NewDishes x = Bench.made(sheetOf(0, 64, -1, -1, -1));
        b.due("more numbers", 5, x.sheet(0, 64, 5));
        holds(b, "more numbers", x, 0, 0, 0, 0, 0, 0);
        sheetOf(0, 16, 7, 7, 7).of(x);
        b.due("fewer numbers", 2, x.sheet(0, 8, 2));
        holds(b, "fewer numbers", x, 0, 0, 0);
        sheetOf(0, 16, 7, 7, 7).of(x);
        x.sheet(0, 0, 0);
        b.due("behind MISSING", 3, x.sheet(0, 16, 3));
        holds(b, "behind MISSING", x, 0, 0, 0, 0);
    }

    @Words(promise = 35, say = "bits 0: it is MISSING: n (0 if it is MISSING).")
    static void sheetOf0BitsIsMissing(Bench b) {
        for (int n : new int[] {0, 1, 40}) {
            NewDishes x = Bench.made(sheetOf(2, 16, 5, 6));
            b.due("sheet(2, 0, " + n + ")", 0, x.sheet(2, 0, n));
            b.due("write", Bench.MISSING, x.write(2, 0, 1));
            b.due("once more", 0, x.sheet(2, 0, n));
        }
    }

    @Words(promise = 35, say = "A sheet has n numbers")
    static void sheetLeavesOtherSheets(Bench b) {
        NewDishes x = Bench.made(both(sheetOf(0, 8, 1, 2), both(sheetOf(1, 16, 3), sheetOf(3, 64, 4, 5))));
        x.sheet(2, 8, 40);
        x.sheet(1, 0, 0);
        holds(b, "sheet 0", x, 0, 1, 2);
        holds(b, "sheet 3", x, 3, 4, 5);
    }

    @Words(promise = 35, say = "BEYOND: no such sheet, other bits.")
    static void sheetThatIsNone(Bench b) {
        for (int s : Bench.NOT_0_TO_3) {
            b.refuses("sheet(" + s + ", 8, 1)", Bench.BEYOND, x -> x.sheet(s, 8, 1));
            b.refuses("sheet(" + s + ", 0, 0)", Bench.BEYOND, x -> x.sheet(s, 0, 0));
        }
    }

    @Words(promise = 35, say = "BEYOND: no such sheet, other bits.")
    static void sheetOfOtherBits(Bench b) {
        for (int bits : NO_BITS) {
            b.refuses("sheet(0, " + bits + ", 1)", Bench.BEYOND, x -> x.sheet(0, bits, 1));
        }
    }

    @Words(promise = 35, say = "SIZE: n is below 0 (also with bits 0).")
    static void sheetOfFewerThanNoNumbers(Bench b) {
        for (int n : new int[] {-1, -40, -256, Bench.MIN, Bench.MIN + 1}) {
            for (int bits : new int[] {0, 8, 16, 64}) {
                b.refuses("sheet(0, " + bits + ", " + n + ")", Bench.SIZE, x -> x.sheet(0, bits, n));
            }
        }
    }

    @Words(promise = 35, say = "BEYOND: n is above 40 (also with bits 0).")
    static void sheetOfTooManyNumbers(Bench b) {
        for (int n : new int[] {41, 64, 256, 65536 + 1, Bench.MAX}) {
            for (int bits : new int[] {0, 8, 16, 64}) {
                b.refuses("sheet(0, " + bits + ", " + n + ")", Bench.BEYOND, x -> x.sheet(0, bits, n));
            }
        }
    }

    @Words(promise = 35, say = "BEYOND: no such sheet, other bits. SIZE")
    static void sheetAsksBeyondAheadOfSize(Bench b) {
        b.refuses("no such sheet", Bench.BEYOND, x -> x.sheet(4, 8, -1));
        b.refuses("no such sheet, bits 0", Bench.BEYOND, x -> x.sheet(-1, 0, -1));
        b.refuses("other bits", Bench.BEYOND, x -> x.sheet(0, 32, -1));
    }

    // ---- promise 36

    @Words(promise = 36, say = "Number i of a sheet becomes v (its lowest bits): what it was.")
    static void writeTheFirstAndTheLastNumber(Bench b) {
        for (int bits : BITS) {
            NewDishes x = Bench.made(y -> y.sheet(3, bits, 40));
            b.due("the first was", 0, x.write(3, 0, 11));
            b.due("the last was", 0, x.write(3, 39, 12));
            b.due("the first", 11, x.write(3, 0, 0));
            b.due("no other", 0, x.write(3, 1, 0));
            b.due("no other", 0, x.write(3, 38, 0));
            b.due("the last", 12, x.write(3, 39, 0));
        }
    }

    @Words(promise = 36, say = "becomes v (its lowest bits)")
    static void writeCutsTo8Bits(Bench b) {
        long[] v = {127, 128, 255, 256, -128, -129, 0x1234567890ABCD7FL, Long.MAX_VALUE, Long.MIN_VALUE};
        long[] want = {127, -128, -1, 0, -128, 127, 127, -1, 0};
        for (int i = 0; i < v.length; i++) {
            b.due("8 bits of " + v[i], want[i], sheetOf(0, 8, v[i]), x -> x.write(0, 0, 0));
        }
    }

    @Words(promise = 36, say = "becomes v (its lowest bits)")
    static void writeCutsTo16Bits(Bench b) {
        long[] v = {255, 256, 32767, 32768, 65535, 65536, -32768, -32769, 0x1234567890AB7FFFL, Long.MAX_VALUE, Long.MIN_VALUE};
        long[] want = {255, 256, 32767, -32768, -1, 0, -32768, 32767, 32767, -1, 0};
        for (int i = 0; i < v.length; i++) {
            b.due("16 bits of " + v[i], want[i], sheetOf(0, 16, v[i]), x -> x.write(0, 0, 0));
        }
    }

    @Words(promise = 36, say = "becomes v (its lowest bits)")
    static void writeKeeps64Bits(Bench b) {
        long[] v = {0, -1, 1L << 31, 1L << 32, -(1L << 31) - 1, Long.MAX_VALUE, Long.MIN_VALUE};
        for (int i = 0; i < v.length; i++) {
            b.due("64 bits of " + v[i], v[i], sheetOf(0, 64, v[i]), x -> x.write(0, 0, 0));
        }
    }

    @Words(promise = 36, say = "what it was")
    static void writeOfWhatLooksLikeAFinding(Bench b) {
        NewDishes x = Bench.made(sheetOf(0, 64, Bench.BEYOND, Bench.MISSING));
        b.due("it was", Bench.BEYOND, x.write(0, 0, 1));
        b.due("it was", Bench.MISSING, x.write(0, 1, 2));
        b.due("no finding", 0, x.status(-1));
        b.due("it became", 1, x.write(0, 0, 0));
        b.due("it became", 2, x.write(0, 1, 0));
    }

    @Words(promise = 36, say = "BEYOND: no such sheet.")
    static void writeToNoSuchSheet(Bench b) {
        for (int s : Bench.NOT_0_TO_3) {
            b.refuses("write(" + s + ", 0, 5)", Bench.BEYOND, x -> x.write(s, 0, 5));
        }
    }

    @Words(promise = 36, say = "MISSING.")
    static void writeToAMissingSheet(Bench b) {
        b.refuses("write(3, 0, 5)", Bench.MISSING, x -> x.write(3, 0, 5));
        b.refuses("made MISSING", Bench.MISSING, both(sheetOf(1, 8, 1), x -> x.sheet(1, 0, 1)), x -> x.write(1, 0, 5));
    }

    @Words(promise = 36, say = "BEYOND: no such number.")
    static void writeToNoSuchNumber(Bench b) {
        int[] many = {3, 4, 9};
        for (int sheet = 0; sheet < 3; sheet++) {
            int s = sheet;
            for (int i : new int[] {-1, many[s], 39, 40, 256, 65536, Bench.MIN, Bench.MAX}) {
                b.refuses("write(" + s + ", " + i + ", 5)", Bench.BEYOND, x -> x.write(s, i, 5));
            }
        }
        b.refuses("of none", Bench.BEYOND, x -> x.sheet(0, 8, 0), x -> x.write(0, 0, 5));
        b.refuses("of forty", Bench.BEYOND, x -> x.sheet(0, 8, 40), x -> x.write(0, 40, 5));
    }

    @Words(promise = 36, say = "BEYOND: no such sheet. MISSING. BEYOND: no such number.")
    static void writeAsksInOrder(Bench b) {
        b.refuses("no such sheet, whatever number", Bench.BEYOND, Bench::fresh, x -> x.write(4, -1, 5));
        b.refuses("MISSING ahead of the number", Bench.MISSING, x -> x.write(3, -1, 5));
        b.refuses("MISSING ahead of the number", Bench.MISSING, x -> x.write(3, 40, 5));
    }

    // ---- promise 37

    @Words(promise = 37, say = "n numbers of a sheet from one on come to another one from one on (as they all were): n.")
    static void copyNoneOneAndAll(Bench b) {
        Bench.State two = both(sheetOf(0, 64, 1, 2, Long.MIN_VALUE), sheetOf(3, 64, 7, 8, 9, 10));
        b.keeps("none", 0, two, x -> x.copy(0, 0, 3, 0, 0));
        b.keeps("none from the end", 0, two, x -> x.copy(0, 3, 3, 4, 0));
        NewDishes one = Bench.made(two);
        b.due("the last to the last", 1, one.copy(0, 2, 3, 3, 1));
        holds(b, "one", one, 3, 7, 8, 9, Long.MIN_VALUE);
        holds(b, "it stays", one, 0, 1, 2, Long.MIN_VALUE);
        NewDishes all = Bench.made(two);
        b.due("all", 3, all.copy(0, 0, 3, 1, 3));
        holds(b, "all", all, 3, 7, 1, 2, Long.MIN_VALUE);
        b.due("forty", 40, x -> {
            x.sheet(1, 8, 40);
            x.sheet(2, 8, 40);
        }, x -> x.copy(1, 0, 2, 0, 40));
    }

    @Words(promise = 37, say = "(as they all were)")
    static void copyWithinASheet(Bench b) {
        for (int bits : BITS) {
            Bench.State five = sheetOf(1, bits, 1, 2, 3, 4, 5);
            NewDishes forth = Bench.made(five);
            b.due("forth", 4, forth.copy(1, 0, 1, 1, 4));
            holds(b, "forth", forth, 1, 1, 1, 2, 3, 4);
            NewDishes back = Bench.made(five);
            b.due("back", 4, back.copy(1, 1, 1, 0, 4));
            holds(b, "back", back, 1, 2, 3, 4, 5, 5);
            b.keeps("onto itself", 5, five, x -> x.copy(1, 0, 1, 0, 5));
        }
    }

    @Words(promise = 37, say = "BEYOND: no such sheet (either).")
    static void copyOfNoSuchSheet(Bench b) {
        for (int s : Bench.NOT_0_TO_3) {
            b.refuses("copy(" + s + ", ..)", Bench.BEYOND, x -> x.copy(s, 0, 0, 0, 1));
            b.refuses("copy(0, 0, " + s + ", ..)", Bench.BEYOND, x -> x.copy(0, 0, s, 0, 1));
            b.refuses("copy(" + s + ", 0, " + s + ", ..)", Bench.BEYOND, x -> x.copy(s, 0, s, 0, 0));
        }
    }

    @Words(promise = 37, say = "MISSING: one is.")
    static void copyOfAMissingSheet(Bench b) {
        b.refuses("the first", Bench.MISSING, x -> x.copy(3, 0, 0, 0, 0));
        b.refuses("the second", Bench.MISSING, x -> x.copy(0, 0, 3, 0, 0));
        b.refuses("both", Bench.MISSING, x -> x.copy(3, 0, 3, 0, 0));
    }

    @Words(promise = 37, say = "KIND: they are not of as many bits.")
    static void copyOfOtherBits(Bench b) {
        for (int s = 0; s < 3; s++) {
            for (int t = 0; t < 3; t++) {
                int from = s;
                int to = t;
                if (s != t) {
                    b.refuses("copy from " + s + " to " + t, Bench.KIND, x -> x.copy(from, 0, to, 0, 1));
                    b.refuses("copy none from " + s + " to " + t, Bench.KIND, x -> x.copy(from, 0, to, 0, 0));
                }
            }
        }
    }

    @Words(promise = 37, say = "BEYOND: one has not so many")
    static void copyOfMoreThanThereAre(Bench b) {
        Bench.State two = both(sheetOf(0, 16, 1, 2, 3, 4, 5), sheetOf(1, 16, 7, 8, 9));
        int[][] beyond = {{0, 0, 4}, {0, 1, 3}, {3, 0, 3}, {5, 0, 1}, {0, 3, 1}, {6, 0, 0}, {0, 4, 0}, {0, 0, 41},
            {0, 0, Bench.MAX}, {1, 1, Bench.MAX}, {Bench.MAX, 0, 0}, {Bench.MAX, 0, 1}, {0, Bench.MAX, 0}, {0, Bench.MAX, 1},
            {Bench.MAX, Bench.MAX, Bench.MAX}};
        for (int[] v : beyond) {
            b.refuses("copy from " + v[0] + " to " + v[1] + ", " + v[2], Bench.BEYOND, two, x -> x.copy(0, v[0], 1, v[1], v[2]));
        }
        b.due("as many as there are", 3, two, x -> x.copy(0, 2, 1, 0, 3));
        b.due("the other way", 3, two, x -> x.copy(1, 0, 0, 2, 3));
        b.refuses("one too many the other way", Bench.BEYOND, two, x -> x.copy(1, 0, 0, 3, 3));
        b.refuses("one more than the first has", Bench.BEYOND, two, x -> x.copy(1, 0, 0, 0, 4));
    }

    @Words(promise = 37, say = "or from, to or n is below 0")
    static void copyFromBelowNothing(Bench b) {
        Bench.State two = both(sheetOf(0, 16, 1, 2, 3, 4, 5), sheetOf(1, 16, 7, 8, 9));
        int[][] below = {{-1, 0, 1}, {0, -1, 1}, {0, 0, -1}, {-1, 0, 0}, {0, -1, 0}, {1, 1, -1}, {5, 3, -1}, {-1, -1, 1}, {-1, -1, -1},
            {Bench.MIN, 0, 1}, {0, Bench.MIN, 1}, {0, 0, Bench.MIN}, {Bench.MIN, Bench.MIN, Bench.MIN},
            {Bench.MIN, 0, Bench.MAX}, {0, Bench.MIN, Bench.MAX}, {Bench.MAX, 0, Bench.MIN}, {1, 1, Bench.MIN + 1}};
        for (int[] v : below) {
            b.refuses("copy from " + v[0] + " to " + v[1] + ", " + v[2], Bench.BEYOND, two, x -> x.copy(0, v[0], 1, v[1], v[2]));
        }
    }

    @Words(promise = 37, say = "BEYOND: no such sheet (either). MISSING: one is. KIND: they are not of as many bits. BEYOND")
    static void copyAsksInOrder(Bench b) {
        b.refuses("no such sheet ahead of MISSING", Bench.BEYOND, x -> x.copy(3, 0, 4, 0, 1));
        b.refuses("no such sheet ahead of MISSING", Bench.BEYOND, x -> x.copy(-1, 0, 3, 0, 1));
        b.refuses("MISSING ahead of KIND", Bench.MISSING, x -> x.copy(0, 0, 3, 0, 1));
        b.refuses("MISSING ahead of numbers", Bench.MISSING, x -> x.copy(3, -1, 3, 0, 1));
        b.refuses("KIND ahead of numbers", Bench.KIND, x -> x.copy(0, -1, 1, 0, 1));
        b.refuses("KIND ahead of numbers", Bench.KIND, x -> x.copy(0, 0, 1, 0, 41));
    }

    // ---- promise 38

    @Words(promise = 38, say = "Numbers of a sheet are STORES of THINGS 0, 1, .. (those that aren't 0 to 99, or stand for none, "
        + "are left out): how many came.")
    static void laysFromNoneToMost(Bench b) {
        NewDishes x = Bench.made(sheetOf(2, 64, 0, 99, -1, 100, Long.MIN_VALUE, Long.MAX_VALUE, (1L << 32) + 7, 1));
        b.due("came", 3, x.lays(2));
        int[] want = {0, 99, 5, 5, 5, 5, 5, 1};
        for (int thing = 0; thing < 8; thing++) {
            b.due("store " + thing, want[thing], x.storeOf(thing));
        }
        b.due("the sheet stays", 99, x.write(2, 1, 0));
    }

    @Words(promise = 38, say = "or stand for none, are left out")
    static void laysMoreThanThereAreThings(Bench b) {
        NewDishes x = Bench.made(sheetOf(0, 8, 1, 1, 1, 1, 1, 1, 1, 1, 2, 3));
        b.due("eight came", 8, x.lays(0));
        b.due("stores", 8, x.now(3));
        b.due("forty numbers", 8, y -> y.sheet(0, 16, 40), y -> y.lays(0));
    }

    @Words(promise = 38, say = "Numbers of a sheet are STORES of THINGS 0, 1, ..")
    static void laysFewerThanThereAreThings(Bench b) {
        b.keeps("none", 0, x -> x.sheet(0, 8, 0), x -> x.lays(0));
        NewDishes x = Bench.made(sheetOf(0, 8, 7));
        b.due("one", 1, x.lays(0));
        b.due("its store", 7, x.storeOf(0));
        b.due("the others stay", 42, x.now(3));
    }

    @Words(promise = 38, say = "those that aren't 0 to 99")
    static void laysOfEachWidth(Bench b) {
        for (int bits : BITS) {
            b.due("99 of " + bits, 1, sheetOf(0, bits, 99), x -> x.lays(0));
            b.keeps("100 of " + bits, 0, sheetOf(0, bits, 100), x -> x.lays(0));
            b.keeps("-1 of " + bits, 0, sheetOf(0, bits, -1), x -> x.lays(0));
        }
        b.keeps("200 of 8", 0, sheetOf(0, 8, 200), x -> x.lays(0));
        b.due("256 of 8 is 0", 0, both(sheetOf(0, 8, 256), x -> x.lays(0)), x -> x.storeOf(0));
        b.due("65536 of 16 is 0", 0, both(sheetOf(0, 16, 65536), x -> x.lays(0)), x -> x.storeOf(0));
    }

    @Words(promise = 38, say = "BEYOND: no such sheet.")
    static void laysOfNoSuchSheet(Bench b) {
        for (int s : Bench.NOT_0_TO_3) {
            b.refuses("lays(" + s + ")", Bench.BEYOND, x -> x.lays(s));
        }
    }

    @Words(promise = 38, say = "MISSING.")
    static void laysOfAMissingSheet(Bench b) {
        b.refuses("lays(3)", Bench.MISSING, x -> x.lays(3));
        b.refuses("made MISSING", Bench.MISSING, both(sheetOf(0, 8, 1), x -> x.sheet(0, 0, 1)), x -> x.lays(0));
    }

    // ---- promise 39

    @Words(promise = 39, say = "come to a sheet, as far as it has numbers and there are any: how many.")
    static void menuAsFarAsThereAreNumbersAndMeals(Bench b) {
        b.keeps("no numbers", 0, x -> x.sheet(0, 16, 0), x -> x.menu(0, 0));
        b.keeps("no meals", 0, both(Bench::noStores, sheetOf(0, 16, 7, 8)), x -> x.menu(0, 0));
        b.keeps("nothing new, nor for guests", 0, both(Bench::allBarred, sheetOf(0, 16, 7, 8)), x -> x.menu(0, 2));
        NewDishes fewer = Bench.made(x -> {
            Bench.noStores(x);
            x.store(0, 2);
            sheetOf(0, 16, -7, -8, -9, -10).of(x);
        });
        b.due("fewer meals", 2, fewer.menu(0, 0));
        holds(b, "fewer meals", fewer, 0, 20, 21, -9, -10);
        b.due("nothing is had", 2, fewer.now(3));
        b.due("nothing is had", 0, fewer.now(1));
        NewDishes more = Bench.made(x -> x.sheet(3, 64, 2));
        b.due("more meals", 2, more.menu(3, 4));
        holds(b, "more meals", more, 3, 20, 40);
        b.due("forty meals", 40, x -> x.sheet(1, 64, 40), x -> x.menu(1, 0));
        b.due("39 meals", 39, both(x -> x.store(7, 4), x -> x.sheet(1, 64, 40)), x -> x.menu(1, 0));
    }

    @Words(promise = 39, say = "(THE BOOK has room for all)")
    static void menuWithAFullBookOnTheLastDay(Bench b) {
        Bench.State late = both(Bench::full, x -> Bench.tell(x, "day 9999"));
        NewDishes x = Bench.made(both(late, y -> y.sheet(0, 16, 40)));
        b.due("forty meals", 40, x.menu(0, 0));
        b.due("the first", 20, x.write(0, 0, 0));
        b.due("the last", 20 * 128 + 4, x.write(0, 39, 0));
        b.due("day", 9999, x.now(0));
        b.due("entries", 30, x.now(1));
    }

    @Words(promise = 39, say = "the DISHES of MEALS 1, 2, .. ON, as a KIND")
    static void menuIsCutToASheetsBits(Bench b) {
        Bench.State last = x -> {
            Bench.stores(x, 0, 0, 0, 0, 0, 0, 0, 3);
            x.like(2, 3, 9);
        };
        // 2563, 2567 and 2571: 2560 is ten times 256.
        NewDishes eight = Bench.made(both(last, x -> x.sheet(0, 8, 3)));
        b.due("8 bits", 3, eight.menu(0, 0));
        holds(b, "8 bits", eight, 0, 3, 7, 11);
        NewDishes sixteen = Bench.made(both(last, x -> x.sheet(0, 16, 3)));
        b.due("16 bits", 3, sixteen.menu(0, 0));
        holds(b, "16 bits", sixteen, 0, 2563, 2567, 2571);
    }

    @Words(promise = 39, say = "BEYOND: no such sheet.")
    static void menuOfNoSuchSheet(Bench b) {
        for (int s : Bench.NOT_0_TO_3) {
            b.refuses("menu(" + s + ", 0)", Bench.BEYOND, x -> x.menu(s, 0));
        }
    }

    @Words(promise = 39, say = "MISSING.")
    static void menuOfAMissingSheet(Bench b) {
        b.refuses("menu(3, 0)", Bench.MISSING, x -> x.menu(3, 0));
        b.refuses("made MISSING", Bench.MISSING, both(sheetOf(0, 8, 1), x -> x.sheet(0, 0, 1)), x -> x.menu(0, 0));
    }

    @Words(promise = 39, say = "BEYOND: kind.")
    static void menuOfNoSuchKind(Bench b) {
        for (int kind : Bench.NO_KINDS) {
            b.refuses("menu(0, " + kind + ")", Bench.BEYOND, x -> x.menu(0, kind));
        }
    }

    @Words(promise = 39, say = "BEYOND: no such sheet. MISSING. BEYOND: kind.")
    static void menuAsksInOrder(Bench b) {
        b.refuses("no such sheet, whatever kind", Bench.BEYOND, Bench::fresh, x -> x.menu(4, 6));
        b.refuses("MISSING ahead of kind", Bench.MISSING, x -> x.menu(3, 6));
        b.refuses("MISSING ahead of kind", Bench.MISSING, x -> x.menu(3, -1));
    }

    // ---- promise 40

    @Words(promise = 40, say = "0 if so; else 1 and the place of the first that can't")
    static void readTellsTheFirstThatCannot(Bench b) {
        b.keeps("no numbers", 0, x -> x.sheet(0, 64, 0), x -> x.read(0, 0));
        b.keeps("all can", 0, sheetOf(0, 16, 20, LAST_DISH, 22), x -> x.read(0, 0));
        b.keeps("the first can't", 1, sheetOf(0, 16, 19, 20, 19), x -> x.read(0, 0));
        b.keeps("the second can't", 2, sheetOf(0, 16, 20, 19, 19), x -> x.read(0, 0));
        b.keeps("the last can't", 3, sheetOf(0, 16, 20, 21, 20), x -> x.read(0, 0));
        b.keeps("the fortieth can't", 40, x -> {
            Bench.stores(x, 99);
            x.sheet(0, 16, 40);
            for (int i = 0; i < 39; i++) {
                x.write(0, i, 20);
            }
        }, x -> x.read(0, 2));
    }

    @Words(promise = 40, say = "numbers of a sheet are DISHES")
    static void readOfWhatIsNoDish(Bench b) {
        for (int dish : Bench.NO_DISHES) {
            for (int kind = 0; kind < 6; kind++) {
                int k = kind;
                b.due(dish + " as kind " + k, 2, sheetOf(0, 64, 20, dish), x -> x.read(0, k));
            }
        }
        for (long v : new long[] {(1L << 32) + 21, (1L << 63) + 21, Long.MIN_VALUE, Long.MAX_VALUE, -(1L << 32) + 21}) {
            b.due(v + "", 2, sheetOf(0, 64, 20, v), x -> x.read(0, 2));
        }
        b.due("16 bits alone", 0, sheetOf(0, 16, 20, (1L << 32) + 21), x -> x.read(0, 0));
        b.due("the last dish", 0, sheetOf(0, 16, 20, LAST_DISH), x -> x.read(0, 0));
    }

    @Words(promise = 40, say = "(each CAN BE, and is NEW by then")
    static void readAsksWhatCanBeAndIsNewByThen(Bench b) {
        for (int kind = 0; kind < 6; kind++) {
            int k = kind;
            b.due("had in the book, kind " + k, k == 2 ? 0 : 1, both(x -> x.enter(0, 20), sheetOf(0, 16, 20)), x -> x.read(0, k));
            b.due("had on the sheet, kind " + k, k == 2 ? 0 : 2, sheetOf(0, 16, 20, 20), x -> x.read(0, k));
            b.due("used up on the sheet, kind " + k, 2, both(x -> x.store(0, 1), sheetOf(0, 16, 20, 24)), x -> x.read(0, k));
            b.due("enough for both, kind " + k, k == 4 ? 2 : 0, both(x -> x.store(0, 2), sheetOf(0, 16, 20, 24)), x -> x.read(0, k));
        }
    }

    @Words(promise = 40, say = "for KIND 2: CAN BE")
    static void readForGuestsAsksWhatCanBeAlone(Bench b) {
        b.due("nothing is new", 0, both(Bench::allBarred, sheetOf(0, 16, 20, 20)), x -> x.read(0, 2));
        b.due("nothing can be", 1, both(Bench::noStores, sheetOf(0, 16, 20, 20)), x -> x.read(0, 2));
        b.due("five times", 0, sheetOf(0, 16, 20, 20, 20, 20, 20), x -> x.read(0, 2));
        b.due("a sixth time", 6, sheetOf(0, 16, 20, 20, 20, 20, 20, 20), x -> x.read(0, 2));
    }

    @Words(promise = 40, say = "THE BOOK has room for all")
    static void readWithAFullBook(Bench b) {
        b.due("a full book", 0, both(Bench::full, sheetOf(0, 16, 20, 21)), x -> x.read(0, 0));
        b.due("forty dishes", 0, x -> {
            Bench.full(x);
            x.sheet(0, 16, 40);
            x.menu(0, 0);
        }, x -> x.read(0, 0));
    }

    @Words(promise = 40, say = "BEYOND: no such sheet.")
    static void readOfNoSuchSheet(Bench b) {
        for (int s : Bench.NOT_0_TO_3) {
            b.refuses("read(" + s + ", 0)", Bench.BEYOND, x -> x.read(s, 0));
        }
    }

    @Words(promise = 40, say = "MISSING.")
    static void readOfAMissingSheet(Bench b) {
        b.refuses("read(3, 0)", Bench.MISSING, x -> x.read(3, 0));
        b.refuses("made MISSING", Bench.MISSING, both(sheetOf(0, 8, 1), x -> x.sheet(0, 0, 1)), x -> x.read(0, 0));
    }

    @Words(promise = 40, say = "BEYOND: kind.")
    static void readOfNoSuchKind(Bench b) {
        for (int kind : Bench.NO_KINDS) {
            b.refuses("read(0, " + kind + ")", Bench.BEYOND, x -> x.read(0, kind));
        }
    }

    @Words(promise = 40, say = "BEYOND: no such sheet. MISSING. BEYOND: kind.")
    static void readAsksInOrder(Bench b) {
        b.refuses("no such sheet, whatever kind", Bench.BEYOND, Bench::fresh, x -> x.read(4, 6));
        b.refuses("MISSING ahead of kind", Bench.MISSING, x -> x.read(3, 6));
        b.refuses("MISSING ahead of kind", Bench.MISSING, x -> x.read(3, -1));
    }

    // ---- promises 41 to 43

    @Words(promise = 41, say = "All that section 1 tells (THE TAPE not) is kept: 1.")
    static void imageKeepsAllOfSection1(Bench b) {
        NewDishes x = Bench.made(Bench::lively);
        NewDishes left = Bench.made(Bench::lively);
        b.due("image", 1, x.image());
        left.image();
        Bench.stores(x, 9, 9, 9, 9, 9, 9, 9, 9);
        for (int which = 0; which < 8; which++) {
            x.like(0, which, 7);
            x.like(1, which % 5, 7);
            x.like(2, which % 4, 7);
        }
        x.edict(0, true);
        x.edict(1, false);
        x.turn(0, 2);
        x.strike();
        x.enter(4, LAST_DISH);
        x.serve(2, 20);
        b.due("entries", 7, x.undo());
        b.hold(Bench.allOf(left).equals(Bench.allOf(x)), "not all came back");
    }

    @Words(promise = 41, say = "is kept: 1")
    static void imageOfEmptyAndFullBooks(Bench b) {
        NewDishes x = new NewDishes();
        b.due("an empty one", 1, x.image());
        Bench.full(x);
        b.due("empty again", 0, x.undo());
        b.due("entries", 0, x.now(1));
        Bench.full(x);
        b.due("a full one", 1, x.image());
        x.strike();
        b.due("full again", 30, x.undo());
        b.due("a 31st", Bench.FULL, x.enter(0, 20));
    }

    @Words(promise = 41, say = "(THE TAPE not)")
    static void imageKeepsNoTapeAndNoSheets(Bench b) {
        NewDishes x = new NewDishes();
        x.image();
        Bench.feed(x, "day 7");
        sheetOf(1, 8, 3, 4).of(x);
        x.undo();
        b.due("bytes", 5, x.count(0));
        b.due("a sheet", 4, x.write(1, 1, 0));
        b.due("the text", 1, x.book());
        Bench.feed(x, "day 8");
        x.image();
        b.due("a tape stays as it is", 5, x.count(0));
        x.wipe();
        x.undo();
        b.due("empty still", 0, x.count(0));
    }

    @Words(promise = 42, say = "It becomes what was kept latest (which stays): how many ENTRIES.")
    static void undoAsOftenAsOneLikes(Bench b) {
        NewDishes x = new NewDishes();
        x.enter(0, 20);
        x.image();
        x.enter(0, 40);
        x.image();
        for (int i = 0; i < 3; i++) {
            x.enter(0, 80);
            x.turn(0, i + 1);
            b.due("the latest", 2, x.undo());
            b.due("entries", 2, x.now(1));
            b.due("kind", 0, x.entryOf(0, 0));
        }
        b.due("with nothing changed", 2, x.undo());
    }

    @Words(promise = 42, say = "NONE: nothing is kept.")
    static void undoOfNothing(Bench b) {
        b.refuses("never kept", Bench.NONE, Bench::fresh, x -> x.undo());
        b.refuses("torn", Bench.NONE, both(Bench::lively, x -> x.tear()), x -> x.undo());
    }

    @Words(promise = 43, say = "Nothing is kept: 1 if something was, else 0.")
    static void tearOnceAndAgain(Bench b) {
        b.keeps("nothing was", 0, Bench::fresh, x -> x.tear());
        NewDishes x = Bench.made(Bench::lively);
        b.due("something was", 1, x.tear());
        b.due("again", 0, x.tear());
        b.due("the book stays", 7, x.now(1));
        b.due("kept anew", 1, x.image());
        b.due("something was", 1, x.tear());
    }

    // ---- promises 44 and 45

    @Words(promise = 44, say = "How many 0 bytes THE TAPE has, 1 EDICTS are in force.")
    static void countFromNoneToMost(Bench b) {
        b.keeps("no bytes", 0, Bench::fresh, x -> x.count(0));
        b.keeps("all bytes", 120, x -> Bench.feed(x, Bench.times(120, " ")), x -> x.count(0));
        b.keeps("both edicts", 2, Bench::fresh, x -> x.count(1));
        b.keeps("sauces", 1, x -> x.edict(1, false), x -> x.count(1));
        b.keeps("ways", 1, x -> x.edict(0, false), x -> x.count(1));
        b.keeps("no edicts", 0, x -> {
            x.edict(0, false);
            x.edict(1, false);
        }, x -> x.count(1));
    }

    @Words(promise = 44, say = "BEYOND: another what.")
    static void countOfAnotherWhat(Bench b) {
        for (int what : new int[] {-1, 2, 3, 32, 256, Bench.MIN, Bench.MAX}) {
            b.refuses("count(" + what + ")", Bench.BEYOND, x -> x.count(what));
        }
    }

    /** One finding of BEYOND, two of FULL, and so on, up to seven of SIZE. */
    private static void oneToSeven(NewDishes x) {
        Bench.full(x);
        for (int i = 0; i < 7; i++) {
            x.sheet(0, 8, -1);
        }
        for (int i = 0; i < 6; i++) {
            x.lays(0);
        }
        x.store(0, 0);
        for (int i = 0; i < 5; i++) {
            x.serve(2, 20);
        }
        for (int i = 0; i < 4; i++) {
            x.by(20);
        }
        for (int i = 0; i < 3; i++) {
            x.as(0, 1);
        }
        x.enter(0, 20);
        x.enter(0, 20);
        x.now(4);
    }

    @Words(promise = 45, say = "which -1: all, 0 to 6: BEYOND to SIZE")
    static void statusOfEachFinding(Bench b) {
        for (int which = 0; which < 7; which++) {
            int w = which;
            b.due("at first", 0, Bench::fresh, x -> x.status(w));
            b.keeps("status(" + w + ")", w + 1, SheetsEdgesTest::oneToSeven, x -> x.status(w));
        }
        b.due("at first", 0, Bench::fresh, x -> x.status(-1));
        b.keeps("all", 28, SheetsEdgesTest::oneToSeven, x -> x.status(-1));
    }

    @Words(promise = 45, say = "How many acts answered a finding ever (undo() takes none back)")
    static void undoTakesNoFindingBack(Bench b) {
        NewDishes x = new NewDishes();
        x.image();
        oneToSeven(x);
        x.undo();
        b.due("all", 28, x.status(-1));
        x.tear();
        b.due("behind tear()", 28, x.status(-1));
        b.due("undo", Bench.NONE, x.undo());
        b.due("it counts", 29, x.status(-1));
        b.due("as NONE", 5, x.status(3));
    }

    @Words(promise = 45, say = "BEYOND (counted from then on): another one.")
    static void statusOfAnotherOne(Bench b) {
        for (int which : new int[] {-2, 7, 8, 32, 256, Bench.MIN, Bench.MAX}) {
            b.refuses("status(" + which + ")", Bench.BEYOND, x -> x.status(which));
        }
        NewDishes x = new NewDishes();
        b.due("the first", Bench.BEYOND, x.status(7));
        b.due("counted from then on", 1, x.status(0));
        b.due("the second", Bench.BEYOND, x.status(-2));
        b.due("counted from then on", 2, x.status(-1));
    }
}
