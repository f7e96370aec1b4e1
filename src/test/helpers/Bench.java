import java.io.IOException;
import java.lang.reflect.InvocationTargetException;
import java.lang.reflect.Method;
import java.util.ArrayList;
import java.util.Arrays;
import java.util.Comparator;
import java.util.List;

/** On which a test of one boundary case tries the class out. */
final class Bench {
    static final int BEYOND = -1000000001;
    static final int FULL = -1000000002;
    static final int KIND = -1000000003;
    static final int NONE = -1000000004;
    static final int STATE = -1000000005;
    static final int MISSING = -1000000006;
    static final int SIZE = -1000000007;
    static final int MIN = Integer.MIN_VALUE;
    static final int MAX = Integer.MAX_VALUE;

    static final int ENTRY = 0;
    static final int PARTED = 1;
    static final int GUEST = 2;
    static final int NAMED = 3;
    static final int FEAST = 4;
    static final int SECRET = 5;

    /** Numbers below and above those from 0 to 3, and such as are among them if only their lowest bits are looked at. */
    static final int[] NOT_0_TO_3 = {-1, 4, 5, 32, 256, 65536, MIN, MIN + 1, MAX};
    static final int[] NO_KINDS = {-1, 6, 7, 32, 256, 65536, MIN, MIN + 1, MAX};
    static final int[] NO_THINGS = {-1, 8, 9, 32, 256, 65536, MIN, MIN + 1, MAX};
    /** The numbers next to those of dishes: around the first, the last, a set of four things; and far off. */
    static final int[] NO_DISHES = {-1, 0, 19, 15 * 20, 15 * 20 + 19, 4500, 225 * 20, 255 * 20, 256 * 20, 257 * 20, -20, MIN,
        MIN + 1, MAX};

    interface State {
        void of(NewDishes x);
    }

    interface Act {
        long on(NewDishes x);
    }

    private final String test;
    private int wrong = 0;

    private Bench(String test) {
        this.test = test;
    }

    /** Runs every test of a class; ends the run with 1 if one fails. */
    static void run(Class<?> tests) throws IOException {
        Document document = new Document();
        int failed = 0;
        List<Method> all = testsOf(tests);
        for (Method method : all) {
            Words words = method.getAnnotation(Words.class);
            Bench bench = new Bench("promise " + words.promise() + ", " + method.getName());
            bench.hold(document.part(words.promise()).contains(words.say()), "the document doesn't say: " + words.say());
            bench.go(method);
            failed += bench.wrong == 0 ? 0 : 1;
        }
        System.out.println(all.size() + " tests, " + failed + " failed");
        if (failed != 0 || all.isEmpty()) {
            System.exit(1);
        }
    }

    static List<Method> testsOf(Class<?> tests) {
        List<Method> all = new ArrayList<>();
        for (Method method : tests.getDeclaredMethods()) {
            if (method.isAnnotationPresent(Words.class)) {
                all.add(method);
            }
        }
        all.sort(Comparator.comparing((Method m) -> m.getAnnotation(Words.class).promise()).thenComparing(Method::getName));
        return all;
    }

    private void go(Method method) {
        try {
            method.setAccessible(true);
            method.invoke(null, this);
        } catch (InvocationTargetException e) {
            hold(false, "threw " + e.getCause());
        } catch (IllegalAccessException e) {
            hold(false, "can't be run: " + e);
        }
    }

    void hold(boolean holds, String what) {
        if (!holds) {
            wrong++;
            System.out.println(test + ": " + what);
        }
    }

    void due(String what, long want, long got) {
        hold(want == got, what + " answered " + got + ", due is " + want);
    }

    /** An answer on a new object brought into a state. */
    void due(String what, long want, State state, Act act) {
        due(what, want, act.on(made(state)));
    }

    /** A call on a lively object answers a finding, and changes nothing but status(). */
    void refuses(String what, int finding, Act act) {
        refuses(what, finding, Bench::lively, act);
    }

    void refuses(String what, int finding, State state, Act act) {
        NewDishes called = made(state);
        NewDishes left = made(state);
        due(what, finding, act.on(called));
        for (int which = -1; which < 7; which++) {
            boolean counts = which == -1 || which == BEYOND - finding;
            due(what + ", then status(" + which + ")", left.status(which) + (counts ? 1 : 0), called.status(which));
        }
        List<Long> want = allOf(left);
        List<Long> got = allOf(called);
        hold(want.equals(got), what + " was refused, but left " + got + " where " + want + " was");
    }

    /** A call answers so, without a finding, and changes nothing at all. */
    void keeps(String what, long want, State state, Act act) {
        NewDishes called = made(state);
        NewDishes left = made(state);
        due(what, want, act.on(called));
        for (int which = -1; which < 7; which++) {
            due(what + ", then status(" + which + ")", left.status(which), called.status(which));
        }
        hold(allOf(left).equals(allOf(called)), what + " changed something");
    }

    static NewDishes made(State state) {
        NewDishes x = new NewDishes();
        state.of(x);
        return x;
    }

    static void fresh(NewDishes x) {
    }

    /** An object in which nothing is as it was at first. */
    static void lively(NewDishes x) {
        int[] stores = {1, 0, 99, 4, 3, 2, 7, 6};
        for (int thing = 0; thing < 8; thing++) {
            x.store(thing, stores[thing]);
            x.like(0, thing, thing - 9);
        }
        x.like(1, 4, 9);
        x.like(2, 3, 8);
        x.edict(1, false);
        x.enter(NAMED, 20 * 7 + 3);
        x.image();
        tell(x, "day 41");
        for (int kind = 0; kind < 6; kind++) {
            x.enter(kind, 20 * (16 + kind) + kind);
        }
        x.store(3, 5);
        x.like(0, 0, 1);
        x.edict(0, false);
        x.edict(1, true);
        x.sheet(0, 8, 3);
        x.sheet(1, 16, 4);
        x.sheet(2, 64, 9);
        for (int s = 0; s < 3; s++) {
            x.write(s, 0, 20 * 4 + s);
            x.write(s, 2, 11 + s);
        }
        x.status(-2);
        x.lays(3);
        feed(x, "day 77;store 2 31");
    }

    /** A full book, of entries that bar nothing, with stores as at first. */
    static void full(NewDishes x) {
        fill(x, GUEST, 20, 30);
    }

    /** Nothing is new: each thing alone has been had at a feast. */
    static void allBarred(NewDishes x) {
        for (int thing = 0; thing < 8; thing++) {
            x.enter(FEAST, 20 << thing);
        }
    }

    /** Nothing can be. */
    static void noStores(NewDishes x) {
        stores(x, 0, 0, 0, 0, 0, 0, 0, 0);
    }

    static void stores(NewDishes x, int... stores) {
        for (int thing = 0; thing < stores.length; thing++) {
            x.store(thing, stores[thing]);
        }
    }

    static void fill(NewDishes x, int kind, int dish, int n) {
        for (int e = 0; e < n; e++) {
            x.enter(kind, dish);
        }
    }

    static void feed(NewDishes x, String text) {
        for (int i = 0; i < text.length(); i += 4) {
            int n = Math.min(4, text.length() - i);
            int bytes = 0;
            for (int k = 0; k < n; k++) {
                bytes = bytes << 8 | text.charAt(i + k);
            }
            x.feed(bytes, n);
        }
    }

    /** What book() answers to a text. */
    static int tell(NewDishes x, String text) {
        feed(x, text);
        return x.book();
    }

    static String times(int n, String text) {
        return text.repeat(n);
    }

    /** All that can be learnt of an object but for status(); it is of no more use then. */
    static List<Long> allOf(NewDishes x) {
        List<Long> all = new ArrayList<>();
        bookOf(x, all);
        for (int s = 0; s < 4; s++) {
            sheetOf(x, s, all);
        }
        all.add((long) x.count(0));
        all.add((long) x.book());
        bookOf(x, all);
        all.add((long) x.undo());
        bookOf(x, all);
        return all;
    }

    private static void bookOf(NewDishes x, List<Long> all) {
        int entries = x.now(1);
        all.addAll(Arrays.asList((long) x.now(0), (long) entries, (long) x.count(1)));
        int sauces = x.edict(0, true);
        all.add((long) sauces);
        x.edict(0, sauces == 0);
        for (int e = 0; e < entries; e++) {
            for (int what = 0; what < 3; what++) {
                all.add((long) x.entryOf(e, what));
            }
        }
        for (int thing = 0; thing < 8; thing++) {
            all.add((long) x.storeOf(thing));
        }
        int[] liked = {8, 5, 4};
        for (int what = 0; what < 3; what++) {
            for (int which = 0; which < liked[what]; which++) {
                all.add((long) x.like(what, which, 0));
            }
        }
    }

    private static void sheetOf(NewDishes x, int s, List<Long> all) {
        for (int i = 0; i <= 40; i++) {
            int refused = x.status(-1);
            long was = x.write(s, i, 0x12345);
            all.add(was);
            if (x.status(-1) != refused) {
                return;
            }
            all.add(x.write(s, i, 0));
        }
    }
}
