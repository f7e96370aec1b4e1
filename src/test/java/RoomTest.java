import java.lang.management.ManagementFactory;
import java.lang.reflect.Array;
import java.lang.reflect.Field;
import java.lang.reflect.Modifier;
import java.util.ArrayDeque;
import java.util.Collections;
import java.util.IdentityHashMap;
import java.util.Set;

/** An object takes little of the one room in which all calls of a run live, and its calls take nothing of it. */
public final class RoomTest {
    /** With these, a run may make two thousand objects, and more, within the room. */
    private static final int MOST_OBJECTS = 200;
    private static final int MOST_FIELDS = 3000;
    private static final com.sun.management.ThreadMXBean THREADS =
        (com.sun.management.ThreadMXBean) ManagementFactory.getThreadMXBean();

    private static int wrong = 0;
    /** Keeps the answers from being left out as of no use. */
    private static long answers = 0;

    private static void hold(boolean holds, String what) {
        if (!holds) {
            wrong++;
            System.out.println(what);
        }
    }

    public static void main(String[] args) throws IllegalAccessException {
        objectIsSmall();
        callsMakeNothing();
        System.out.println(wrong == 0 ? "the room is kept" : wrong + " things are not as due");
        if (wrong != 0) {
            System.exit(1);
        }
    }

    private static void objectIsSmall() throws IllegalAccessException {
        Set<Object> seen = Collections.newSetFromMap(new IdentityHashMap<>());
        ArrayDeque<Object> open = new ArrayDeque<>();
        open.add(new NewDishes());
        int fields = 0;
        while (!open.isEmpty()) {
            Object one = open.remove();
            if (seen.add(one)) {
                fields += one.getClass().isArray() ? placesOf(one, open) : fieldsOf(one, open);
            }
        }
        hold(seen.size() > 1 && seen.size() <= MOST_OBJECTS, "an object is " + seen.size() + " objects and arrays");
        hold(fields > seen.size() && fields <= MOST_FIELDS, "an object has " + fields + " fields and elements");
    }

    private static int placesOf(Object array, ArrayDeque<Object> open) {
        if (!array.getClass().getComponentType().isPrimitive()) {
            for (Object one : (Object[]) array) {
                open.add(one);
            }
        }
        return Array.getLength(array);
    }

    private static int fieldsOf(Object one, ArrayDeque<Object> open) throws IllegalAccessException {
        int fields = 0;
        for (Field field : one.getClass().getDeclaredFields()) {
            if (!Modifier.isStatic(field.getModifiers())) {
                fields++;
                field.setAccessible(true);
                if (!field.getType().isPrimitive()) {
                    open.add(field.get(one));
                }
            }
        }
        return fields;
    }

    private static void callsMakeNothing() {
        if (!THREADS.isThreadAllocatedMemorySupported()) {
            System.out.println("this machine can't tell what calls make");
            return;
        }
        // The first round may load what the machine itself needs.
        madeBy(new NewDishes());
        hold(madeBy(new NewDishes()) == 0, "calls make objects");
    }

    private static long madeBy(NewDishes x) {
        long before = THREADS.getCurrentThreadAllocatedBytes();
        for (int round = 0; round < 2; round++) {
            answers += ofDishes(x) + ofBook(x) + ofMeals(x) + ofText(x) + ofSheets(x) + ofImages(x);
        }
        return THREADS.getCurrentThreadAllocatedBytes() - before;
    }

    private static long ofDishes(NewDishes x) {
        return x.store(0, 9) + x.store(8, 0) + x.storeOf(0) + x.like(0, 3, 7) + x.edict(0, false) + x.dish(3, 1, 2) + x.of(66, 5)
            + x.near(66, 40) + x.nearHad(66, 8) + x.many(3) + x.next(0);
    }

    private static long ofBook(NewDishes x) {
        return x.enter(4, 66) + x.enter(1, 85) + x.entryOf(0, 3) + x.turn(0, 5) + x.as(0, 3) + x.bars(0, 66) + x.by(66) + x.breach()
            + x.keenest() + x.wouldBe(1) + x.strike();
    }

    private static long ofMeals(NewDishes x) {
        return x.best() + x.serve(2, 66) + x.meals(0, 5) + x.on(1, 5) + x.lasts(0) + x.buy(0) + x.steps(66, 4499) + x.within(66, 12)
            + x.walk(66, 12) + x.now(3);
    }

    private static long ofText(NewDishes x) {
        int day = 'd' << 16 | 'a' << 8 | 'y';
        return x.feed(day, 3) + x.feed('7', 1) + x.book() + x.feed(day, 3) + x.book() + x.feed(day, 3) + x.wipe();
    }

    private static long ofSheets(NewDishes x) {
        return x.sheet(0, 16, 40) + x.sheet(1, 16, 20) + x.write(0, 0, 66L) + x.copy(0, 0, 1, 0, 20) + x.menu(0, 0) + x.read(0, 0)
            + x.lays(1) + x.lays(3);
    }

    private static long ofImages(NewDishes x) {
        return x.image() + x.undo() + x.tear() + x.count(1) + x.status(-1);
    }
}
