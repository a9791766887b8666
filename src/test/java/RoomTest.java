import java.lang.management.ManagementFactory;
import java.lang.reflect.Array;
import java.lang.reflect.Field;
import java.lang.reflect.Modifier;
import java.util.Random;

/** No call throws for any arguments in any state, no call makes objects, and an object takes little room. */
public final class RoomTest {
    private static final Random RANDOM = new Random(7);
    private static final int[] EDGES = {Integer.MIN_VALUE, Integer.MIN_VALUE + 1, -100001, -2, -1, 0, 1, 2, 3, 7, 8, 9, 10,
        24, 31, 32, 33, 60, 63, 64, 99, 127, 199, 200, 201, 255, 256, 300, 600, 999, 9999, 10000, 1 << 30,
        Integer.MAX_VALUE - 1, Integer.MAX_VALUE};
    private static final String[] TEXTS = {
        "paces 9;swings (away+wind*9)/rope-ago 9 speed/3;hand if ago 3 away>0 then 1 else 0-1 end;holds 99-yard;lasts yard+weight/rope;",
        "hand goal;order 1 at 0 due 999 men 9 on 0;order 9 at 9 due 99 men 1 on 1;hook 0;land;hook 1;run 60;",
        "swings 99*99*99*99/0-size -away;hand --------goal;", "aim 600;run 60;run 60;rope 1;rope 24;move out;"};

    private static int objects = 0;
    private static int elements = 0;

    public static void main(String[] args) throws Exception {
        for (int i = 0; i < 60; i++) {
            wild(i % 2 == 0);
        }
        long one = bytesOf(512, 1);
        long many = bytesOf(512, 40);
        // What the machine makes for itself is far less than one object for each of these 20,000 calls.
        Checks.is("bytes made by calls: " + one + ", " + many, many < 40000, true);
        // Hundreds of objects must fit into one room of 600,000 objects and 7,300,000 elements.
        count(new HookSwings());
        Checks.is("objects made with one: " + objects, objects <= 100, true);
        Checks.is("fields and elements made with one: " + elements, elements <= 10000, true);
        Checks.close();
    }

    /** What is referred to twice counts twice, so this is no less than what is made. */
    private static void count(Object one) throws Exception {
        objects++;
        if (one.getClass().isArray()) {
            int length = Array.getLength(one);
            elements += length;
            for (int i = 0; i < length && one instanceof Object[] row; i++) {
                count(row[i]);
            }
            return;
        }
        for (Field field : one.getClass().getDeclaredFields()) {
            if (Modifier.isStatic(field.getModifiers())) {
                continue;
            }
            elements++;
            if (!field.getType().isPrimitive()) {
                field.setAccessible(true);
                count(field.get(one));
            }
        }
    }

    private static int any() {
        return RANDOM.nextInt(4) == 0 ? RANDOM.nextInt() : EDGES[RANDOM.nextInt(EDGES.length)];
    }

    private static void wild(boolean furnished) {
        HookSwings x = new HookSwings();
        if (furnished) {
            for (String text : TEXTS) {
                Checks.is(text, Checks.text(x, text) >= 0, true);
            }
            x.played(1);
            x.by(RANDOM.nextInt(4));
        }
        for (int i = 0; i < 450; i++) {
            call(x, RANDOM.nextInt(46));
        }
        Checks.is("no call threw", x.jib(9) >= 0, true);
    }

    private static void call(HookSwings x, int which) {
        boolean flag = RANDOM.nextBoolean();
        switch (which) {
            case 0: x.order(any(), any(), any(), any(), any()); break;
            case 1: x.near(any()); break;
            case 2: x.feed(any(), any(), any(), any(), any()); break;
            case 3: x.end(any()); break;
            case 4: x.text(); break;
            case 5: x.fault(any()); break;
            case 6: x.by(any()); break;
            case 7: x.move(any()); break;
            case 8: x.run(any()); break;
            case 9: x.hoist(any()); break;
            case 10: x.aim(any()); break;
            case 11: x.hook(any()); break;
            case 12: x.land(); break;
            case 13: x.played(any()); break;
            case 14: x.storm(any(), any()); break;
            case 15: x.undo(); break;
            case 16: x.jib(any()); break;
            case 17: x.ofOrder(any(), any()); break;
            case 18: x.ago(any(), any()); break;
            case 19: x.foretold(any(), flag, any()); break;
            case 20: x.soonest(any()); break;
            case 21: x.fewest(any()); break;
            case 22: x.toAndFro(any()); break;
            case 23: x.calm(any(), any(), flag); break;
            case 24: x.dies(any(), any()); break;
            case 25: x.calmest(any()); break;
            case 26: x.whoseHand(); break;
            case 27: x.dayEnds(any(), any()); break;
            case 28: x.saves(any(), any(), any()); break;
            case 29: x.whenToGo(); break;
            case 30: x.whichRope(); break;
            case 31: x.bar(any(), any(), any(), any()); break;
            default: callMore(x, which, flag);
        }
    }

    private static void callMore(HookSwings x, int which, boolean flag) {
        switch (which) {
            case 32: x.barred(any(), flag); break;
            case 33: x.howFar(any()); break;
            case 34: x.over(); break;
            case 35: x.first(any(), any()); break;
            case 36: x.twoJibs(any(), any()); break;
            case 37: x.said(any(), flag); break;
            case 38: x.left(flag); break;
            case 39: x.landed(any(), any()); break;
            case 40: x.hour(any()); break;
            case 41: x.mean(flag); break;
            case 42: x.image(); break;
            case 43: x.back(); break;
            case 44: x.about(any()); break;
            default: x.run(1 + RANDOM.nextInt(60));
        }
    }

    /** Bytes that this thread makes in so many calls on each of some objects. */
    private static long bytesOf(int calls, int objects) {
        var threads = (com.sun.management.ThreadMXBean) ManagementFactory.getThreadMXBean();
        long made = 0;
        for (int o = 0; o < objects; o++) {
            HookSwings x = new HookSwings();
            for (String text : TEXTS) {
                Checks.text(x, text);
            }
            x.played(1);
            x.by(0);
            long id = Thread.currentThread().getId();
            long before = threads.getThreadAllocatedBytes(id);
            for (int i = 0; i < calls; i++) {
                call(x, i % 46);
            }
            made += threads.getThreadAllocatedBytes(id) - before;
        }
        return made;
    }
}
