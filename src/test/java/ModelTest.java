import java.util.ArrayDeque;
import java.util.ArrayList;
import java.util.HashMap;
import java.util.List;
import java.util.Map;
import java.util.Random;

/** Long runs of calls, each answer held against a model that does what the terms say, word by word. */
public final class ModelTest {
    private static final int RUNS = 80;
    private static final int CALLS = 512;
    private static final String[] KIND_NAMES = {"entry", "parted", "guest", "named", "feast", "secret"};

    public static void main(String[] args) {
        int wrong = 0;
        for (int seed = 0; seed < RUNS; seed++) {
            if (!agrees(seed)) {
                wrong++;
            }
        }
        System.out.println(wrong == 0 ? "the model agrees in all runs" : "the model disagrees in " + wrong + " runs");
        if (wrong != 0) {
            System.exit(1);
        }
    }

    private static boolean agrees(int seed) {
        Random random = new Random(seed);
        NewDishes x = new NewDishes();
        Model model = new Model();
        StringBuilder trail = new StringBuilder();
        for (int call = 0; call < CALLS; call++) {
            Step step = nextStep(random, model);
            long got = step.on(x);
            long want = step.on(model);
            trail.append(step).append(" = ").append(want).append('\n');
            if (got != want) {
                System.out.println("seed " + seed + ", call " + call + ": " + step + " answered " + got + ", due is " + want);
                System.out.println(trail);
                return false;
            }
        }
        return true;
    }

    private static int some(Random r, int low, int high) {
        if (r.nextInt(60) == 0) {
            int[] odd = {low - 1, high + 1, Integer.MIN_VALUE, Integer.MAX_VALUE};
            return odd[r.nextInt(odd.length)];
        }
        return low + r.nextInt(high - low + 1);
    }

    private static int someDish(Random r, Model model) {
        if (r.nextInt(50) == 0) {
            return r.nextInt(5200) - 300;
        }
        if (r.nextInt(3) == 0 && !model.entries.isEmpty()) {
            return model.entries.get(r.nextInt(model.entries.size())).dish;
        }
        int set = 0;
        int n = 1 + r.nextInt(3);
        for (int i = 0; i < n; i++) {
            set |= 1 << r.nextInt(r.nextBoolean() ? 8 : 3);
        }
        return 20 * set + r.nextInt(r.nextBoolean() ? 20 : 3);
    }

    private static Step nextStep(Random r, Model m) {
        int last = Math.max(0, m.entries.size() - 1);
        switch (r.nextInt(52)) {
            case 0: return new Step("store", some(r, 0, 7), r.nextBoolean() ? some(r, 0, 99) : some(r, 0, 3));
            case 1: return new Step("storeOf", some(r, 0, 7));
            case 2: case 3: return new Step("like", some(r, 0, 2), some(r, 0, 4), some(r, -9, 9));
            case 4: return new Step("edict", some(r, 0, 1), r.nextInt(2));
            case 5: return new Step("dish", some(r, 0, 256), some(r, 0, 4), some(r, 0, 3));
            case 6: return new Step("of", someDish(r, m), some(r, 0, 5));
            case 7: return new Step("near", someDish(r, m), someDish(r, m));
            case 8: return new Step("nearHad", someDish(r, m), some(r, 0, 8));
            case 9: case 10: return new Step("many", some(r, 0, 3));
            case 11: return new Step("next", some(r, 0, 4600));
            case 12: case 13: return new Step("enter", some(r, 0, 5), someDish(r, m));
            case 14: return new Step("entryOf", some(r, 0, last), some(r, 0, 3));
            case 15: return new Step("turn", some(r, 0, last), some(r, 0, 5));
            case 16: return new Step("as", some(r, 0, last), some(r, 0, 5));
            case 17: case 18: return new Step("strike");
            case 19: return new Step("bars", some(r, 0, last), someDish(r, m));
            case 20: return new Step("by", someDish(r, m));
            case 21: return new Step("breach");
            case 22: return new Step("keenest");
            case 23: return new Step("wouldBe", some(r, 0, 1));
            case 24: return new Step("best");
            case 25: return new Step("serve", some(r, 0, 5), someDish(r, m));
            case 26: return new Step("meals", some(r, 0, 5), r.nextInt(4) == 0 ? some(r, 1, 30) : some(r, 1, 2));
            case 27: return new Step("on", some(r, 0, 5), some(r, 1, 30));
            case 28: return new Step("lasts", some(r, 0, 5));
            case 29: return r.nextInt(3) == 0 ? new Step("buy", some(r, 0, 5)) : new Step("lasts", some(r, 0, 5));
            case 30: case 31: return new Step("steps", someDish(r, m), someDish(r, m));
            case 32: return new Step("within", someDish(r, m), some(r, 0, 12));
            case 33: return new Step("walk", someDish(r, m), some(r, 1, 12));
            case 34: return new Step("now", some(r, 0, 3));
            case 35: return new Step("feed", r.nextInt(), some(r, 1, 4));
            case 36: return new Step("wipe");
            case 37: return new Step("book");
            case 38: case 39: return new Step("sheet", some(r, 0, 3), new int[] {0, 8, 16, 64, 16, 64, 32}[r.nextInt(7)], some(r, 0, 40));
            case 40: case 41: return new Step("write", some(r, 0, 3), some(r, 0, 40), someLong(r, m));
            case 42: return new Step("copy", some(r, 0, 3), some(r, 0, 20), some(r, 0, 3), some(r, 0, 20), some(r, 0, 20));
            case 43: return r.nextInt(3) == 0 ? new Step("lays", some(r, 0, 3)) : new Step("now", 3);
            case 44: return new Step("menu", some(r, 0, 3), some(r, 0, 5));
            case 45: return new Step("read", some(r, 0, 3), some(r, 0, 5));
            case 46: return new Step("image");
            case 47: return r.nextInt(2) == 0 ? new Step("undo") : new Step("count", some(r, 0, 1));
            case 48: return r.nextInt(3) == 0 ? new Step("tear") : new Step("status", some(r, -1, 6));
            default: return new Step(someText(r));
        }
    }

    private static long someLong(Random r, Model m) {
        switch (r.nextInt(4)) {
            case 0: return r.nextLong();
            case 1: return r.nextInt(130) - 20;
            default: return someDish(r, m);
        }
    }

    private static String someText(Random r) {
        StringBuilder text = new StringBuilder();
        int items = 1 + r.nextInt(4);
        for (int i = 0; i < items; i++) {
            text.append(i == 0 ? "" : r.nextBoolean() ? ";" : " ; ").append(someItem(r));
        }
        if (r.nextInt(3) == 0 && text.length() > 0) {
            String odd = "; 0123456789aey~A";
            int at = r.nextInt(text.length());
            switch (r.nextInt(3)) {
                case 0: text.deleteCharAt(at); break;
                case 1: text.setLength(at); break;
                default: text.insert(at, odd.charAt(r.nextInt(odd.length())));
            }
        }
        return text.length() > 120 ? text.substring(0, 120) : text.toString();
    }

    private static String someItem(Random r) {
        switch (r.nextInt(7)) {
            case 0: return "store " + r.nextInt(8) + " " + r.nextInt(100);
            case 1: return (r.nextBoolean() ? "likes" : "loathes") + " thing " + r.nextInt(8) + " " + r.nextInt(10);
            case 2: return (r.nextBoolean() ? "likes" : "loathes") + (r.nextBoolean() ? " way " : " sauce ")
                + r.nextInt(4) + " " + r.nextInt(10);
            case 3: return "edict " + (r.nextBoolean() ? "ways " : "sauces ") + (r.nextBoolean() ? "on" : "off");
            case 4: return "day " + (r.nextBoolean() ? r.nextInt(10000) : 9970 + r.nextInt(35));
            default:
                StringBuilder item = new StringBuilder(KIND_NAMES[r.nextInt(6)]);
                int n = 1 + r.nextInt(3);
                for (int i = 0; i < n; i++) {
                    item.append(' ').append(r.nextInt(8));
                }
                return item + " way " + r.nextInt(5) + (r.nextBoolean() ? "sauce" : " sauce ") + r.nextInt(4);
        }
    }

    /** One call, or (with a text) feeds of all its bytes and book() behind a wipe(). */
    private static final class Step {
        final String name;
        final long[] a;
        final String text;

        Step(String name, long... a) {
            this.name = name;
            this.a = a;
            this.text = null;
        }

        Step(String text) {
            boolean isCall = text.matches("strike|breach|keenest|best|wipe|book|image|undo|tear");
            this.name = isCall ? text : "text";
            this.a = new long[0];
            this.text = isCall ? null : text;
        }

        private int i(int n) {
            return (int) a[n];
        }

        @Override public String toString() {
            return name + java.util.Arrays.toString(a) + (text == null ? "" : " " + text);
        }

        long on(NewDishes x) {
            switch (name) {
                case "store": return x.store(i(0), i(1));
                case "storeOf": return x.storeOf(i(0));
                case "like": return x.like(i(0), i(1), i(2));
                case "edict": return x.edict(i(0), a[1] == 1);
                case "dish": return x.dish(i(0), i(1), i(2));
                case "of": return x.of(i(0), i(1));
                case "near": return x.near(i(0), i(1));
                case "nearHad": return x.nearHad(i(0), i(1));
                case "many": return x.many(i(0));
                case "next": return x.next(i(0));
                case "enter": return x.enter(i(0), i(1));
                case "entryOf": return x.entryOf(i(0), i(1));
                case "turn": return x.turn(i(0), i(1));
                case "as": return x.as(i(0), i(1));
                case "strike": return x.strike();
                case "bars": return x.bars(i(0), i(1));
                case "by": return x.by(i(0));
                case "breach": return x.breach();
                case "keenest": return x.keenest();
                case "wouldBe": return x.wouldBe(i(0));
                case "best": return x.best();
                case "serve": return x.serve(i(0), i(1));
                case "meals": return x.meals(i(0), i(1));
                case "on": return x.on(i(0), i(1));
                case "lasts": return x.lasts(i(0));
                case "buy": return x.buy(i(0));
                case "steps": return x.steps(i(0), i(1));
                case "within": return x.within(i(0), i(1));
                case "walk": return x.walk(i(0), i(1));
                case "now": return x.now(i(0));
                case "feed": return x.feed(i(0), i(1));
                case "wipe": return x.wipe();
                case "book": return x.book();
                case "sheet": return x.sheet(i(0), i(1), i(2));
                case "write": return x.write(i(0), i(1), a[2]);
                case "copy": return x.copy(i(0), i(1), i(2), i(3), i(4));
                case "lays": return x.lays(i(0));
                case "menu": return x.menu(i(0), i(1));
                case "read": return x.read(i(0), i(1));
                case "image": return x.image();
                case "undo": return x.undo();
                case "tear": return x.tear();
                case "count": return x.count(i(0));
                case "status": return x.status(i(0));
                default:
                    x.wipe();
                    for (char c : text.toCharArray()) {
                        x.feed(c, 1);
                    }
                    return x.book();
            }
        }

        long on(Model m) {
            if (text != null) {
                m.tape.setLength(0);
                m.tape.append(text);
                return m.book();
            }
            long answer = m.call(name, a);
            if (answer <= -1000000001L && answer >= -1000000007L && !m.isNoFinding) {
                m.status[(int) (-1000000001L - answer)]++;
            }
            return answer;
        }
    }

    private static final class Entry {
        final int kind;
        final int dish;
        final int day;

        Entry(int kind, int dish, int day) {
            this.kind = kind;
            this.dish = dish;
            this.day = day;
        }
    }

    private static final class Refusal extends RuntimeException {
        private static final long serialVersionUID = 1L;
        final long answer;

        Refusal(long answer) {
            super(null, null, false, false);
            this.answer = answer;
        }
    }

    private static final class Model {
        static final long BEYOND = -1000000001L;
        static final long FULL = -1000000002L;
        static final long KIND = -1000000003L;
        static final long NONE = -1000000004L;
        static final long STATE = -1000000005L;
        static final long MISSING = -1000000006L;
        static final long SIZE = -1000000007L;

        int[] stores = {5, 5, 5, 5, 5, 5, 5, 5};
        int[][] liked = {new int[8], new int[5], new int[4]};
        boolean[] edicts = {true, true};
        List<Entry> entries = new ArrayList<>();
        int day = 0;
        StringBuilder tape = new StringBuilder();
        long[][] sheets = new long[4][];
        int[] bits = new int[4];
        Model kept = null;
        final long[] status = new long[7];
        boolean isNoFinding;

        Model twin() {
            Model t = new Model();
            t.take(this);
            return t;
        }

        void take(Model o) {
            stores = o.stores.clone();
            liked = new int[][] {o.liked[0].clone(), o.liked[1].clone(), o.liked[2].clone()};
            edicts = o.edicts.clone();
            entries = new ArrayList<>(o.entries);
            day = o.day;
        }

        long call(String name, long[] a) {
            isNoFinding = false;
            try {
                return answer(name, a);
            } catch (Refusal r) {
                return r.answer;
            }
        }

        static void ask(boolean holds, long finding) {
            if (!holds) {
                throw new Refusal(finding);
            }
        }

        static long in(long v, long low, long high) {
            ask(v >= low && v <= high, BEYOND);
            return v;
        }

        static boolean isDish(long d) {
            return d >= 20 && d < 256 * 20 && Long.bitCount(d / 20) <= 3;
        }

        static int dish(long d) {
            ask(isDish(d), BEYOND);
            return (int) d;
        }

        static List<Integer> all() {
            List<Integer> all = new ArrayList<>();
            for (int d = 0; d < 6000; d++) {
                if (isDish(d)) {
                    all.add(d);
                }
            }
            return all;
        }

        static final List<Integer> ALL = all();

        boolean bars(Entry e, int d) {
            int one = e.dish / 20;
            int two = d / 20;
            boolean same = one == two;
            boolean part = (one | two) == one || (one | two) == two;
            boolean way = e.dish / 4 % 5 == d / 4 % 5;
            boolean sauce = e.dish % 4 == d % 4;
            boolean asked = (way || !edicts[1]) && (sauce || !edicts[0]);
            switch (e.kind) {
                case 0: return same && asked;
                case 1: return part && asked;
                case 2: return false;
                case 3: return e.dish == d;
                case 4: return part;
                default: return same && way;
            }
        }

        boolean isNew(int d) {
            for (Entry e : entries) {
                if (bars(e, d)) {
                    return false;
                }
            }
            return true;
        }

        boolean canBe(int d) {
            for (int t = 0; t < 8; t++) {
                if ((d / 20 >> t & 1) == 1 && stores[t] == 0) {
                    return false;
                }
            }
            return true;
        }

        boolean both(int d) {
            return canBe(d) && isNew(d);
        }

        int liking(int d) {
            int sum = liked[1][d / 4 % 5] + liked[2][d % 4];
            for (int t = 0; t < 8; t++) {
                sum += (d / 20 >> t & 1) * liked[0][t];
            }
            return sum;
        }

        int best(Iterable<Integer> among) {
            int best = -1;
            for (int d : among) {
                boolean beats = best < 0 || liking(d) > liking(best) || liking(d) == liking(best) && d < best;
                if (beats && both(d)) {
                    best = d;
                }
            }
            return best;
        }

        void meal(int kind, int d) {
            entries.add(new Entry(kind, d, day));
            for (int t = 0; t < 8; t++) {
                stores[t] -= d / 20 >> t & 1;
            }
            day++;
        }

        List<Integer> mealsOn(int kind, int n) {
            Model t = twin();
            List<Integer> served = new ArrayList<>();
            while (served.size() < n) {
                int d = t.best(ALL);
                if (d < 0) {
                    break;
                }
                t.meal(kind, d);
                served.add(d);
            }
            return served;
        }

        static int near(int one, int two) {
            return Integer.bitCount(one / 20 ^ two / 20) + (one / 4 % 5 == two / 4 % 5 ? 0 : 1) + (one % 4 == two % 4 ? 0 : 1);
        }

        Map<Integer, Integer> distances(int from) {
            Map<Integer, Integer> far = new HashMap<>();
            ArrayDeque<Integer> queue = new ArrayDeque<>();
            far.put(from, 0);
            queue.add(from);
            List<Integer> open = new ArrayList<>();
            for (int d : ALL) {
                if (both(d)) {
                    open.add(d);
                }
            }
            while (!queue.isEmpty()) {
                int d = queue.remove();
                for (int e : open) {
                    if (!far.containsKey(e) && near(d, e) == 1) {
                        far.put(e, far.get(d) + 1);
                        queue.add(e);
                    }
                }
            }
            return far;
        }

        int newOnes() {
            int n = 0;
            for (int d : ALL) {
                n += isNew(d) ? 1 : 0;
            }
            return n;
        }

        Entry entry(long e) {
            return entries.get((int) in(e, 0, entries.size() - 1));
        }

        long[] sheetOf(long s) {
            in(s, 0, 3);
            ask(sheets[(int) s] != null, MISSING);
            return sheets[(int) s];
        }

        long cut(long s, long v) {
            int b = 64 - bits[(int) s];
            return v << b >> b;
        }

        static long orNone(long v) {
            ask(v >= 0, NONE);
            return v;
        }

        long answer(String name, long[] a) {
            switch (name) {
                case "store": {
                    in(a[1], 0, 99);
                    int was = stores[(int) in(a[0], 0, 7)];
                    stores[(int) a[0]] = (int) a[1];
                    return was;
                }
                case "storeOf": return stores[(int) in(a[0], 0, 7)];
                case "like": {
                    in(a[2], -9, 9);
                    int[] row = liked[(int) in(a[0], 0, 2)];
                    int was = row[(int) in(a[1], 0, row.length - 1)];
                    row[(int) a[1]] = (int) a[2];
                    return was;
                }
                case "edict": {
                    boolean was = edicts[(int) in(a[0], 0, 1)];
                    edicts[(int) a[0]] = a[1] == 1;
                    return was == (a[1] == 1) ? 0 : 1;
                }
                case "dish": {
                    in(a[0], 1, 255);
                    in(a[1], 0, 4);
                    in(a[2], 0, 3);
                    return dish(20 * a[0] + 4 * a[1] + a[2]);
                }
                case "of": {
                    int d = dish(a[0]);
                    in(a[1], 0, 5);
                    int[] told = {d / 20, d / 4 % 5, d % 4, liking(d), canBe(d) ? 1 : 0, isNew(d) ? 1 : 0};
                    return told[(int) a[1]];
                }
                case "near": return near(dish(a[0]), dish(a[1]));
                case "nearHad": {
                    int d = dish(a[0]);
                    in(a[1], 0, 8);
                    return entries.stream().filter(e -> e.kind != 2 && near(e.dish, d) <= a[1]).count();
                }
                case "many": {
                    in(a[0], 0, 3);
                    return ALL.stream().filter(d -> {
                        boolean can = canBe(d);
                        boolean fresh = isNew(d);
                        return new boolean[] {can, fresh, can && fresh, !can && !fresh}[(int) a[0]];
                    }).count();
                }
                case "next": {
                    ask(a[0] >= 0, BEYOND);
                    return ALL.stream().filter(d -> d >= a[0] && both(d)).findFirst().map(d -> (long) d).orElse(NONE);
                }
                default: return answerOfBook(name, a);
            }
        }

        long answerOfBook(String name, long[] a) {
            switch (name) {
                case "enter": {
                    in(a[0], 0, 5);
                    dish(a[1]);
                    ask(entries.size() < 30, FULL);
                    entries.add(new Entry((int) a[0], (int) a[1], day));
                    return entries.size() - 1;
                }
                case "entryOf": {
                    Entry e = entry(a[0]);
                    in(a[1], 0, 3);
                    long barred = ALL.stream().filter(d -> bars(e, d)).count();
                    return new long[] {e.kind, e.dish, e.day, barred}[(int) a[1]];
                }
                case "turn": {
                    Entry e = entry(a[0]);
                    in(a[1], 0, 5);
                    entries.set((int) a[0], new Entry((int) a[1], e.dish, e.day));
                    return e.kind;
                }
                case "as": {
                    Entry e = entry(a[0]);
                    in(a[1], 0, 5);
                    String[] are = {"0", "01", "02", "03", "014", "035"};
                    ask(are[e.kind].contains(Long.toString(a[1])), KIND);
                    return e.dish;
                }
                case "strike": {
                    ask(!entries.isEmpty(), NONE);
                    return entries.remove(entries.size() - 1).dish;
                }
                case "bars": return bars(entry(a[0]), dish(a[1])) ? 1 : 0;
                case "by": {
                    int d = dish(a[0]);
                    for (int e = 0; e < entries.size(); e++) {
                        if (bars(entries.get(e), d)) {
                            return e;
                        }
                    }
                    return NONE;
                }
                case "breach": {
                    for (int e = 0; e < entries.size(); e++) {
                        for (int f = 0; f < e; f++) {
                            if (entries.get(e).kind != 2 && bars(entries.get(f), entries.get(e).dish)) {
                                return e;
                            }
                        }
                    }
                    return NONE;
                }
                case "keenest": {
                    int best = -1;
                    int most = -1;
                    int all = newOnes();
                    for (int e = 0; e < entries.size(); e++) {
                        Model without = twin();
                        without.entries.remove(e);
                        int more = without.newOnes() - all;
                        if (more > most) {
                            most = more;
                            best = e;
                        }
                    }
                    return orNone(best);
                }
                case "wouldBe": {
                    Model other = twin();
                    other.edicts[(int) in(a[0], 0, 1)] ^= true;
                    return other.newOnes() - newOnes();
                }
                default: return answerOfMeals(name, a);
            }
        }

        long answerOfMeals(String name, long[] a) {
            switch (name) {
                case "best": return orNone(best(ALL));
                case "serve": {
                    int kind = (int) in(a[0], 0, 5);
                    int d = dish(a[1]);
                    ask(canBe(d) && (kind == 2 || isNew(d)) && day < 9999, STATE);
                    ask(entries.size() < 30, FULL);
                    meal(kind, d);
                    return entries.size() - 1;
                }
                case "meals": {
                    int kind = (int) in(a[0], 0, 5);
                    int n = (int) in(a[1], 1, 30);
                    ask(day + n <= 9999, STATE);
                    List<Integer> served = mealsOn(kind, Math.min(n, 30 - entries.size()));
                    for (int d : served) {
                        meal(kind, d);
                    }
                    return served.size();
                }
                case "on": {
                    int kind = (int) in(a[0], 0, 5);
                    int n = (int) in(a[1], 1, 30);
                    List<Integer> served = mealsOn(kind, n);
                    ask(served.size() == n, NONE);
                    return served.get(n - 1);
                }
                case "lasts": return mealsOn((int) in(a[0], 0, 5), 60).size();
                case "buy": {
                    int kind = (int) in(a[0], 0, 5);
                    int most = mealsOn(kind, 60).size();
                    int best = -1;
                    for (int t = 0; t < 8; t++) {
                        Model richer = twin();
                        richer.stores[t]++;
                        int lasts = richer.mealsOn(kind, 60).size();
                        if (lasts > most) {
                            most = lasts;
                            best = t;
                        }
                    }
                    return orNone(best);
                }
                case "steps": return distances(dish(a[0])).getOrDefault(dish(a[1]), (int) NONE);
                case "within": {
                    dish(a[0]);
                    in(a[1], 0, 12);
                    return distances((int) a[0]).values().stream().filter(far -> far <= a[1]).count();
                }
                case "walk": {
                    dish(a[0]);
                    in(a[1], 1, 12);
                    List<Integer> reached = new ArrayList<>();
                    distances((int) a[0]).forEach((d, far) -> {
                        if (far <= a[1]) {
                            reached.add(d);
                        }
                    });
                    return orNone(best(reached));
                }
                case "now": {
                    in(a[0], 0, 3);
                    long guests = entries.stream().filter(e -> e.kind == 2).count();
                    return new long[] {day, entries.size(), guests, java.util.Arrays.stream(stores).sum()}[(int) a[0]];
                }
                default: return answerOfSheets(name, a);
            }
        }

        long answerOfSheets(String name, long[] a) {
            switch (name) {
                case "feed": {
                    in(a[1], 1, 4);
                    ask(tape.length() + a[1] <= 120, FULL);
                    for (int k = (int) a[1] - 1; k >= 0; k--) {
                        tape.append((char) ((int) a[0] >>> 8 * k & 255));
                    }
                    return tape.length();
                }
                case "wipe": {
                    int had = tape.length();
                    tape.setLength(0);
                    return had;
                }
                case "book": return book();
                case "sheet": {
                    in(a[0], 0, 3);
                    ask(a[1] == 0 || a[1] == 8 || a[1] == 16 || a[1] == 64, BEYOND);
                    ask(a[2] >= 0, SIZE);
                    in(a[2], 0, 40);
                    sheets[(int) a[0]] = a[1] == 0 ? null : new long[(int) a[2]];
                    bits[(int) a[0]] = (int) a[1];
                    return a[1] == 0 ? 0 : a[2];
                }
                case "write": {
                    long[] row = sheetOf(a[0]);
                    long was = row[(int) in(a[1], 0, row.length - 1)];
                    row[(int) a[1]] = cut(a[0], a[2]);
                    isNoFinding = true;
                    return was;
                }
                case "copy": {
                    in(a[0], 0, 3);
                    in(a[2], 0, 3);
                    long[] from = sheetOf(a[0]).clone();
                    long[] to = sheetOf(a[2]);
                    ask(bits[(int) a[0]] == bits[(int) a[2]], KIND);
                    in(a[1], 0, from.length);
                    in(a[3], 0, to.length);
                    in(a[4], 0, Math.min(from.length - a[1], to.length - a[3]));
                    for (int i = 0; i < a[4]; i++) {
                        to[(int) a[3] + i] = from[(int) a[1] + i];
                    }
                    return a[4];
                }
                case "lays": {
                    long[] row = sheetOf(a[0]);
                    int came = 0;
                    for (int t = 0; t < Math.min(8, row.length); t++) {
                        if (row[t] >= 0 && row[t] <= 99) {
                            stores[t] = (int) row[t];
                            came++;
                        }
                    }
                    return came;
                }
                case "menu": {
                    long[] row = sheetOf(a[0]);
                    List<Integer> served = mealsOn((int) in(a[1], 0, 5), row.length);
                    for (int i = 0; i < served.size(); i++) {
                        row[i] = cut(a[0], served.get(i));
                    }
                    return served.size();
                }
                case "read": {
                    long[] row = sheetOf(a[0]);
                    in(a[1], 0, 5);
                    Model t = twin();
                    for (int i = 0; i < row.length; i++) {
                        if (!isDish(row[i]) || !t.canBe((int) row[i]) || a[1] != 2 && !t.isNew((int) row[i])) {
                            return 1 + i;
                        }
                        t.meal((int) a[1], (int) row[i]);
                    }
                    return 0;
                }
                default: return answerOfImages(name, a);
            }
        }

        long answerOfImages(String name, long[] a) {
            switch (name) {
                case "image":
                    kept = twin();
                    return 1;
                case "undo":
                    ask(kept != null, NONE);
                    take(kept);
                    return entries.size();
                case "tear": {
                    boolean was = kept != null;
                    kept = null;
                    return was ? 1 : 0;
                }
                case "count":
                    in(a[0], 0, 1);
                    return a[0] == 0 ? tape.length() : (edicts[0] ? 1 : 0) + (edicts[1] ? 1 : 0);
                case "status":
                    in(a[0], -1, 6);
                    return a[0] < 0 ? java.util.Arrays.stream(status).sum() : status[(int) a[0]];
                default:
                    throw new IllegalStateException(name);
            }
        }

        // ---- the text: all tokens first, then each against what may stand there

        private List<String> words;
        private List<Integer> places;
        private int at;

        int book() {
            String text = tape.toString();
            tape.setLength(0);
            words = new ArrayList<>();
            places = new ArrayList<>();
            java.util.regex.Matcher m = java.util.regex.Pattern.compile("[a-z]+|[0-9]+|[^ ]", java.util.regex.Pattern.DOTALL)
                .matcher(text);
            while (m.find()) {
                words.add(m.group());
                places.add(m.start());
            }
            words.add("");
            places.add(text.length());
            at = 0;
            Model draft = twin();
            try {
                int items = 0;
                do {
                    item(draft);
                    items++;
                } while (!expect(";", "").isEmpty());
                take(draft);
                return items;
            } catch (Refusal r) {
                return (int) r.answer;
            }
        }

        private String fault() {
            throw new Refusal(-1 - places.get(at));
        }

        private String expect(String... any) {
            for (String word : any) {
                if (words.get(at).equals(word)) {
                    at++;
                    return word;
                }
            }
            return fault();
        }

        private boolean isNumber() {
            return words.get(at).matches("[0-9]+");
        }

        private int number(int most) {
            if (!isNumber() || new java.math.BigInteger(words.get(at)).compareTo(java.math.BigInteger.valueOf(most)) > 0) {
                fault();
            }
            return Integer.parseInt(words.get(at++).replaceFirst("^0+(?=.)", ""));
        }

        private void item(Model draft) {
            int kind = java.util.Arrays.asList(KIND_NAMES).indexOf(words.get(at));
            if (kind >= 0) {
                if (draft.entries.size() == 30) {
                    fault();
                }
                at++;
                int set = 0;
                for (int n = 0; n < 3 && (n == 0 || isNumber()); n++) {
                    int thing = number(7);
                    if ((set & 1 << thing) != 0) {
                        at--;
                        fault();
                    }
                    set |= 1 << thing;
                }
                expect("way");
                int way = number(4);
                expect("sauce");
                int sauce = number(3);
                draft.entries.add(new Entry(kind, 20 * set + 4 * way + sauce, draft.day));
                return;
            }
            switch (expect("store", "likes", "loathes", "edict", "day")) {
                case "store":
                    int thing = number(7);
                    draft.stores[thing] = number(99);
                    break;
                case "day":
                    draft.day = number(9999);
                    break;
                case "edict":
                    int which = expect("sauces", "ways").equals("ways") ? 1 : 0;
                    draft.edicts[which] = expect("on", "off").equals("on");
                    break;
                default:
                    boolean likes = words.get(at - 1).equals("likes");
                    int what = java.util.Arrays.asList("thing", "way", "sauce").indexOf(expect("thing", "way", "sauce"));
                    int one = number(draft.liked[what].length - 1);
                    int v = number(9);
                    draft.liked[what][one] = likes ? v : -v;
            }
        }
    }
}
