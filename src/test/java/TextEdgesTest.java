import java.io.IOException;

/** The boundary cases of the tape and its text: their terms, and promises 32 to 34. */
public final class TextEdgesTest {
    private static final String[] KINDS = {"entry", "parted", "guest", "named", "feast", "secret"};
    private static final String[] WHATS = {"thing", "way", "sauce"};
    private static final int[] LAST = {7, 4, 3};

    public static void main(String[] args) throws IOException {
        Bench.run(TextEdgesTest.class);
    }

    /** A text on a lively object stands. */
    private static NewDishes stands(Bench b, int items, String text) {
        NewDishes x = Bench.made(Bench::lively);
        int findings = x.status(-1);
        x.wipe();
        b.due("'" + text + "'", items, Bench.tell(x, text));
        b.due("the tape behind '" + text + "'", 0, x.count(0));
        b.due("findings behind '" + text + "'", findings, x.status(-1));
        return x;
    }

    /** A text on a lively object has a fault, and changes nothing but that the tape is empty. */
    private static void faults(Bench b, int place, String text) {
        NewDishes told = Bench.made(Bench::lively);
        NewDishes left = Bench.made(Bench::lively);
        told.wipe();
        left.wipe();
        b.due("'" + text + "'", -1 - place, Bench.tell(told, text));
        b.due("findings behind '" + text + "'", left.status(-1), told.status(-1));
        b.hold(Bench.allOf(left).equals(Bench.allOf(told)), "'" + text + "' has a fault, but changed something");
    }

    // ---- the terms

    @Words(promise = 0, say = "THE TEXT of a BOOK, from THE TAPE (bytes, at most 120).")
    static void aTextOf120Bytes(Bench b) {
        String text = Bench.times(19, "day 1;") + "day 99";
        b.due("its length", 120, text.length());
        b.due("its day", 99, stands(b, 20, text).now(0));
        String word = Bench.times(16, "day 1;") + "        edict sauces on";
        b.due("its length", 119, word.length());
        b.due("a word up to byte 119", 2, stands(b, 17, word).count(1));
        b.due("a word up to byte 120", 2, stands(b, 17, " " + word).count(1));
        faults(b, 120, Bench.times(20, "day 1;"));
        faults(b, 120, Bench.times(19, "day 1;") + "  day ");
    }

    @Words(promise = 0, say = "TOKENS, each as long as can be")
    static void tokensAreAsLongAsCanBe(Bench b) {
        faults(b, 0, "days 1");
        faults(b, 0, "dayday 1");
        faults(b, 6, "entry 12 way 0 sauce 0");
        faults(b, 13, "edict sauces onoff");
        b.due("a word ends at a digit", 7, stands(b, 1, "day7").now(0));
        b.due("a number ends at a letter", 20 * 64 + 3, stands(b, 1, "entry6way0sauce3").entryOf(7, 1));
        b.due("a sign ends both", 8, stands(b, 2, "edict ways off;day8").now(0));
    }

    @Words(promise = 0, say = "WORDS (letters a to z)")
    static void lettersFromAToZ(Bench b) {
        faults(b, 0, "{");
        faults(b, 0, "`");
        faults(b, 0, "Day 1");
        faults(b, 1, " Zay 1");
        faults(b, 3, "day{1");
        faults(b, 3, "day`1");
        // A word that is none is one token, up to the byte behind z and ahead of a.
        faults(b, 4, "day az");
        faults(b, 4, "day za");
        faults(b, 0, "dayz 1");
        faults(b, 0, "daya 1");
        faults(b, 0, "zday 1");
        faults(b, 0, "aday 1");
    }

    @Words(promise = 0, say = "NUMBERS (digits, 9999 at most)")
    static void numbersUpTo9999(Bench b) {
        b.due("0", 0, stands(b, 1, "day 0").now(0));
        b.due("9999", 9999, stands(b, 1, "day 9999").now(0));
        b.due("noughts ahead", 9999, stands(b, 1, "day 00000000009999").now(0));
        faults(b, 4, "day 10000");
        faults(b, 4, "day 99999");
        // Such as are small if only their lowest bits, or their first digits, are looked at.
        faults(b, 4, "day 65537");
        faults(b, 4, "day 4294967297");
        faults(b, 4, "day 18446744073709551617");
        faults(b, 4, "day 340282366920938463463374607431768211457");
        faults(b, 6, "store 4294967296 1");
        faults(b, 4, "day /");
        faults(b, 4, "day :");
        faults(b, 5, "day 1/");
        faults(b, 5, "day 1:");
    }

    @Words(promise = 0, say = "SIGN ;")
    static void theSignAndTheBytesNextToIt(Bench b) {
        stands(b, 2, "day 1;day 2");
        faults(b, 5, "day 1:day 2");
        faults(b, 5, "day 1<day 2");
        faults(b, 6, "day 1;;day 2");
        faults(b, 0, ";day 1");
    }

    @Words(promise = 0, say = "blanks may stand between")
    static void blanksBetweenTokens(Bench b) {
        b.due("many", 12, stands(b, 2, "   day   1  ;  day  12   ").now(0));
        b.due("none", 12, stands(b, 2, "day1;day12").now(0));
        faults(b, 6, "day 1 2");
        faults(b, 0, "d ay 1");
        faults(b, 5, "day 1!");
        faults(b, 5, "day 1" + (char) 31);
    }

    @Words(promise = 0, say = "TEXT: ITEM { ; ITEM }.")
    static void oneItemAndMany(Bench b) {
        stands(b, 1, "day 1");
        stands(b, 24, Bench.times(23, "day1;") + "day1 ");
        faults(b, 0, "");
        faults(b, 6, "day 1;");
        faults(b, 9, "day 1;   ");
        faults(b, 6, "day 1 day 2");
        faults(b, 6, "day 1;;");
    }

    @Words(promise = 0, say = "the name of a KIND (entry parted guest named feast secret)")
    static void namesOfAllKinds(Bench b) {
        for (int kind = 0; kind < 6; kind++) {
            NewDishes x = stands(b, 1, KINDS[kind] + " 0 way 0 sauce 0");
            b.due(KINDS[kind], kind, x.entryOf(7, 0));
            b.due("its dish", 20, x.entryOf(7, 1));
            faults(b, 0, KINDS[kind] + "s 0 way 0 sauce 0");
            faults(b, 0, KINDS[kind].substring(1) + " 0 way 0 sauce 0");
            faults(b, 0, KINDS[kind].substring(0, KINDS[kind].length() - 1) + " 0 way 0 sauce 0");
        }
    }

    @Words(promise = 0, say = "one to three NUMBERS (unlike THINGS)")
    static void oneToThreeUnlikeThings(Bench b) {
        b.due("one", 20 * 128, stands(b, 1, "entry 7 way 0 sauce 0").entryOf(7, 1));
        b.due("two", 20 * 129, stands(b, 1, "entry 7 0 way 0 sauce 0").entryOf(7, 1));
        b.due("three", 20 * 145, stands(b, 1, "entry 7 0 4 way 0 sauce 0").entryOf(7, 1));
        faults(b, 6, "entry way 0 sauce 0");
        faults(b, 12, "entry 7 0 4 5 way 0 sauce 0");
        faults(b, 12, "entry 7 0 4 7 way 0 sauce 0");
        faults(b, 6, "entry 8 way 0 sauce 0");
        faults(b, 8, "entry 7 8 way 0 sauce 0");
        faults(b, 10, "entry 7 6 8 way 0 sauce 0");
        faults(b, 6, "entry 32 way 0 sauce 0");
        faults(b, 6, "entry 9999 way 0 sauce 0");
        faults(b, 8, "entry 7 7 way 0 sauce 0");
        faults(b, 10, "entry 7 6 7 way 0 sauce 0");
        faults(b, 10, "entry 6 7 07 way 0 sauce 0");
    }

    @Words(promise = 0, say = "way, a NUMBER (0 to 4), sauce, a NUMBER (0 to 3): a new ENTRY on DAY (NEW or not, STORES stay)")
    static void waysAndSaucesOfAnEntry(Bench b) {
        b.due("the last", 20 + 19, stands(b, 1, "entry 0 way 4 sauce 3").entryOf(7, 1));
        faults(b, 12, "entry 0 way 5 sauce 0");
        faults(b, 12, "entry 0 way 9999 sauce 0");
        faults(b, 20, "entry 0 way 4 sauce 4");
        faults(b, 20, "entry 0 way 4 sauce 9999");
        faults(b, 8, "entry 0 ways 4 sauce 3");
        faults(b, 8, "entry 0 sauce 3 way 4");
        faults(b, 14, "entry 0 way 4 sauces 3");
        faults(b, 12, "entry 0 way sauce 3");
    }

    @Words(promise = 0, say = "a new ENTRY on DAY (NEW or not, STORES stay)")
    static void anEntryOfATextIsNewOrNot(Bench b) {
        NewDishes x = Bench.made(Bench::noStores);
        b.due("two the same", 3, Bench.tell(x, "entry 0 way 0 sauce 0;day 9999;entry 0 way 0 sauce 0"));
        b.due("entries", 2, x.now(1));
        b.due("the day of the first", 0, x.entryOf(0, 2));
        b.due("the day of the second", 9999, x.entryOf(1, 2));
        b.due("the day stays", 9999, x.now(0));
        b.due("stores stay", 0, x.now(3));
    }

    @Words(promise = 0, say = "store, a NUMBER (THING), a NUMBER (0 to 99)")
    static void storesOfAText(Bench b) {
        b.due("none", 0, stands(b, 1, "store 0 0").storeOf(0));
        b.due("most", 99, stands(b, 1, "store 7 99").storeOf(7));
        faults(b, 6, "store 8 5");
        faults(b, 8, "store 7 100");
        faults(b, 8, "store 7 9999");
        faults(b, 7, "store 7");
        faults(b, 10, "store 7 9 9");
        faults(b, 6, "store thing 7 9");
    }

    @Words(promise = 0, say = "likes or loathes, thing or way or sauce, a NUMBER (which), a NUMBER (0 to 9)")
    static void likesOfAText(Bench b) {
        for (int what = 0; what < 3; what++) {
            String likes = "likes " + WHATS[what] + " ";
            int w = what;
            for (int which : new int[] {0, LAST[what]}) {
                b.due(likes + which, 9, stands(b, 1, likes + which + " 9").like(w, which, 0));
                b.due(likes + which, 0, stands(b, 1, likes + which + " 0").like(w, which, 0));
                b.due("loathes " + which, -9, stands(b, 1, "loathes " + WHATS[what] + " " + which + " 9").like(w, which, 0));
            }
            faults(b, likes.length(), likes + (LAST[what] + 1) + " 1");
            faults(b, likes.length(), likes + "9999 1");
            faults(b, likes.length() + 2, likes + "0 10");
            faults(b, likes.length() + 2, likes + "0 9999");
            faults(b, likes.length() + 4, "loathes " + WHATS[what] + " 0 10");
            faults(b, 6, likes.trim() + "s 0 1");
        }
        faults(b, 6, "likes 0 1");
        faults(b, 6, "likes entry 0 1");
        faults(b, 0, "like thing 0 1");
        faults(b, 0, "loathe thing 0 1");
    }

    @Words(promise = 0, say = "it is LIKED so much, or less than nothing by so much")
    static void loathedByNothing(Bench b) {
        b.due("loathed by 0", 0, stands(b, 1, "loathes thing 7 0").like(0, 7, 5));
        b.due("loathed by 1", -1, stands(b, 1, "loathes thing 7 1").like(0, 7, 5));
        b.due("liked by 1", 1, stands(b, 1, "likes thing 7 1").like(0, 7, 5));
    }

    @Words(promise = 0, say = "edict, sauces or ways, on or off")
    static void edictsOfAText(Bench b) {
        // At first the lively one has the edict of ways alone in force.
        b.due("sauces on", 2, stands(b, 1, "edict sauces on").count(1));
        b.due("sauces are on", 0, stands(b, 1, "edict sauces on").edict(0, true));
        b.due("sauces are off", 0, stands(b, 2, "edict sauces on;edict sauces off").edict(0, false));
        b.due("ways are off", 0, stands(b, 1, "edict ways off").edict(1, false));
        b.due("ways are on", 0, stands(b, 2, "edict ways off;edict ways on").edict(1, true));
        b.due("sauces off, as they are", 1, stands(b, 1, "edict sauces off").count(1));
        b.due("ways off", 0, stands(b, 1, "edict ways off").count(1));
        b.due("ways on, as they are", 1, stands(b, 1, "edict ways on").count(1));
        faults(b, 6, "edict sauce on");
        faults(b, 6, "edict way on");
        faults(b, 6, "edict on");
        faults(b, 6, "edict 0 on");
        faults(b, 11, "edict ways of");
        faults(b, 11, "edict ways 1");
        faults(b, 14, "edict ways on on");
    }

    @Words(promise = 0, say = "day and a NUMBER (0 to 9999)")
    static void daysOfAText(Bench b) {
        b.due("day 0", 0, stands(b, 1, "day 0").now(0));
        b.due("day 9999", 9999, stands(b, 1, "day 9999").now(0));
        b.due("the later one", 3, stands(b, 2, "day 9999;day 3").now(0));
        faults(b, 4, "day 10000");
        faults(b, 4, "day one");
        faults(b, 4, "day ;");
        faults(b, 4, "day -1");
    }

    @Words(promise = 0, say = "FAULT: the place (from 0) of the first byte of the first TOKEN that can't stand there")
    static void theFirstFaultIsTold(Bench b) {
        faults(b, 0, "X");
        faults(b, 2, "  days 10000 X");
        faults(b, 4, "day 10000;X");
        faults(b, 6, "day 1;X;day 10000");
        faults(b, 10, "store 2 8 9;X");
    }

    @Words(promise = 0, say = "(a NUMBER that may not be, another WORD, a byte that begins no TOKEN")
    static void eachThatCannotStandThere(Bench b) {
        faults(b, 6, "store 8 1");
        faults(b, 6, "store x 1");
        faults(b, 6, "store X 1");
        faults(b, 6, "store ; 1");
        faults(b, 0, "1");
        faults(b, 0, "way 1");
        faults(b, 0, "sauces on");
        for (int bad : new int[] {0, 9, 10, 13, 31, 33, 47, 58, 60, 64, 65, 90, 91, 96, 123, 127, 128, 160, 176, 255}) {
            faults(b, 0, "" + (char) bad);
            faults(b, 4, "day " + (char) bad + "1");
            faults(b, 5, "day 1" + (char) bad);
            faults(b, 6, "day 1;" + (char) bad);
        }
    }

    @Words(promise = 0, say = "the name of a KIND for a 31st: its own")
    static void theNameOfAKindForA31st(Bench b) {
        for (int kind = 0; kind < 6; kind++) {
            String item = KINDS[kind] + " 0 way 0 sauce 0";
            NewDishes x = Bench.made(y -> Bench.fill(y, 2, 20, 29));
            b.due("the 30th and a 31st", -1 - (item.length() + 2), Bench.tell(x, item + "; " + item));
            b.due("none came", 29, x.now(1));
            b.due("the 30th", 1, Bench.tell(x, item));
            b.due("its kind", kind, x.entryOf(29, 0));
            b.due("a 31st", -1, Bench.tell(x, item));
            b.due("a 31st with another fault behind it", -1, Bench.tell(x, KINDS[kind] + " X"));
            b.due("a 31st that ends too early", -1 - 2, Bench.tell(x, "  " + KINDS[kind]));
            b.due("entries", 30, x.now(1));
            b.due("another item", 1, Bench.tell(x, "day 8"));
            b.due("its day", 8, x.now(0));
        }
    }

    @Words(promise = 0, say = "or how many bytes there are if it ends too early")
    static void textsThatEndTooEarly(Bench b) {
        for (String text : new String[] {"", "entry", "entry 1", "entry 1 2", "entry 1 2 3", "entry 1 way", "entry 1 way 0",
            "entry 1 way 0 sauce", "store", "store 1", "likes", "likes thing", "likes thing 1", "loathes", "loathes sauce",
            "loathes sauce 0", "edict", "edict ways", "day", "day 1;"}) {
            faults(b, text.length(), text);
            faults(b, text.length() + 3, text + "   ");
        }
        faults(b, 120, Bench.times(120, " "));
    }

    // ---- promise 32

    @Words(promise = 32, say = "THE TAPE gets the n lowest bytes of a number behind it, the highest of these first (n 1 to 4): "
        + "how many it has.")
    static void feedOneToFourBytes(Bench b) {
        int day1 = 'd' << 24 | 'a' << 16 | 'y' << 8 | '1';
        NewDishes x = new NewDishes();
        b.due("four", 4, x.feed(day1, 4));
        b.due("one", 5, x.feed(day1, 1));
        b.due("day 11", 1, x.book());
        b.due("day", 11, x.now(0));
        b.due("one", 1, x.feed('z' << 24 | 'z' << 16 | 'z' << 8 | 'd', 1));
        b.due("three", 4, x.feed('z' << 24 | 'a' << 16 | 'y' << 8 | '2', 3));
        b.due("two", 6, x.feed('9' << 24 | '9' << 16 | '3' << 8 | '4', 2));
        b.due("day 234", 1, x.book());
        b.due("day", 234, x.now(0));
    }

    @Words(promise = 32, say = "the n lowest bytes of a number")
    static void feedOfNumbersBelowNothing(Bench b) {
        NewDishes x = new NewDishes();
        b.due("the highest bit of each", 4, x.feed(-1, 4));
        b.due("no token", -1, x.book());
        Bench.feed(x, "day");
        b.due("a digit alone of a number below 0", 4, x.feed(0xFFFFFF00 | '5', 1));
        b.due("day 5", 1, x.book());
        b.due("day", 5, x.now(0));
        // 176 is '0' with its highest bit: neither a digit nor a sign that ends the bytes.
        Bench.feed(x, "day 1");
        b.due("a byte above 127", 6, x.feed(176, 1));
        b.due("its place", -1 - 5, x.book());
    }

    @Words(promise = 32, say = "BEYOND: n.")
    static void feedTooFewOrTooManyBytes(Bench b) {
        for (int n : new int[] {0, -1, 5, 8, 32, 256, 65536 + 1, Bench.MIN, Bench.MIN + 1, Bench.MAX}) {
            b.refuses("feed(48, " + n + ")", Bench.BEYOND, x -> x.feed(48, n));
            b.refuses("feed(48, " + n + "), empty", Bench.BEYOND, Bench::fresh, x -> x.feed(48, n));
        }
    }

    @Words(promise = 32, say = "FULL.")
    static void feedA121stByte(Bench b) {
        for (int n = 1; n <= 4; n++) {
            int many = n;
            Bench.State room = x -> Bench.feed(x, "day 7" + Bench.times(115 - many, " "));
            Bench.State less = x -> Bench.feed(x, "day 7" + Bench.times(116 - many, " "));
            b.due(n + " to the last", 120, room, x -> x.feed(0x20202020, many));
            b.refuses(n + " with room for one less", Bench.FULL, less, x -> x.feed(0x20202020, many));
            b.refuses(n + " on a full tape", Bench.FULL, x -> Bench.feed(x, "day 7" + Bench.times(115, " ")),
                x -> x.feed(0x20202020, many));
        }
    }

    @Words(promise = 32, say = "BEYOND: n. FULL.")
    static void feedAsksBeyondAheadOfFull(Bench b) {
        Bench.State full = x -> Bench.feed(x, "day 7" + Bench.times(115, " "));
        for (int n : new int[] {0, -1, 5, Bench.MIN, Bench.MAX}) {
            b.refuses("feed(48, " + n + ")", Bench.BEYOND, full, x -> x.feed(48, n));
        }
    }

    // ---- promise 33

    @Words(promise = 33, say = "THE TAPE is empty: how many it had.")
    static void wipeAnEmptyAndAFullTape(Bench b) {
        b.keeps("empty", 0, Bench::fresh, x -> x.wipe());
        NewDishes x = new NewDishes();
        Bench.feed(x, Bench.times(120, "9"));
        b.due("full", 120, x.wipe());
        b.due("bytes", 0, x.count(0));
        b.due("again", 0, x.wipe());
        b.due("from the start", 4, x.feed('d' << 24 | 'a' << 16 | 'y' << 8 | '3', 4));
        b.due("nothing is left behind it", 1, x.book());
        b.due("day", 3, x.now(0));
        b.due("no finding", 0, x.status(-1));
    }

    // ---- promise 34

    @Words(promise = 34, say = "THE TAPE is THE TEXT of a BOOK, whose ITEMS come to what there is, and empty then: how many ITEMS.")
    static void theTapeIsEmptyBehindABook(Bench b) {
        NewDishes x = Bench.made(y -> Bench.fill(y, 0, 40, 2));
        b.due("two items", 2, Bench.tell(x, "guest 0 way 0 sauce 0;store 0 9"));
        b.due("they come to what there is", 3, x.now(1));
        b.due("the first stays", 40, x.entryOf(0, 1));
        b.due("stores", 44, x.now(3));
        b.due("bytes", 0, x.count(0));
        b.due("an empty tape", -1, x.book());
        b.due("no finding", 0, x.status(-1));
    }

    @Words(promise = 34, say = "With a FAULT: -1 less its place (nothing changes but that THE TAPE is empty; no finding).")
    static void aFaultUndoesWhatStoodAheadOfIt(Bench b) {
        faults(b, 0, "");
        faults(b, 6, "day 1;X");
        faults(b, 22, "entry 0 way 0 sauce 0;X");
        faults(b, 10, "store 0 9;X");
        faults(b, 16, "likes thing 0 9;X");
        faults(b, 17, "loathes sauce 0 9X");
        faults(b, 15, "edict ways off;X");
        faults(b, 119, Bench.times(119, " ") + "X");
        b.due("bytes", 0, x -> Bench.tell(x, "day X"), x -> x.count(0));
    }
}
