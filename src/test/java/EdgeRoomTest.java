import java.lang.management.ManagementFactory;
import java.lang.reflect.Array;
import java.lang.reflect.Field;
import java.lang.reflect.Method;
import java.lang.reflect.Modifier;
import java.math.BigDecimal;
import java.math.BigInteger;
import java.util.ArrayDeque;
import java.util.Collections;
import java.util.IdentityHashMap;
import java.util.Set;

/** What an object needs of the room, and that its calls need no more. */
public final class EdgeRoomTest {
    private static final int CALLS = 300;
    /** The least object of the library's machine has more bytes than this. */
    private static final int LEAST_OBJECT = 12;

    public static void main(String[] args) throws ReflectiveOperationException {
        room();
        nothingIsMade();
        House.end();
    }

    private static void room() throws ReflectiveOperationException {
        House.sentence("All memory is the class's own");
        Set<Object> seen = Collections.newSetFromMap(new IdentityHashMap<>());
        ArrayDeque<Object> open = new ArrayDeque<>();
        NumberHouse first = new NumberHouse();
        open.add(first);
        seen.add(first);
        long parts = 0;
        while (!open.isEmpty()) {
            Object one = open.remove();
            parts += one.getClass().isArray() ? Array.getLength(one) : 0;
            if (one instanceof Object[] row) {
                for (Object part : row) {
                    found(part, seen, open);
                }
            } else if (!one.getClass().isArray()) {
                parts += fields(one, seen, open);
            }
        }
        House.due("objects: " + seen.size(), seen.size() < 200, true);
        House.due("fields and elements: " + parts, parts < 10000, true);
    }

    private static int fields(Object one, Set<Object> seen, ArrayDeque<Object> open) throws ReflectiveOperationException {
        int count = 0;
        for (Field field : one.getClass().getDeclaredFields()) {
            if (!Modifier.isStatic(field.getModifiers())) {
                count++;
                field.setAccessible(true);
                if (!field.getType().isPrimitive()) {
                    found(field.get(one), seen, open);
                }
            }
        }
        return count;
    }

    private static void found(Object part, Set<Object> seen, ArrayDeque<Object> open) {
        if (part != null && seen.add(part)) {
            open.add(part);
        }
    }

    private static void nothingIsMade() {
        House.sentence("a call makes nothing but what it throws");
        Twins.Setup setup = h -> {
            Twins.furnish(h);
            h.setWhole(1, House.two(2046));
            h.setWhole(2, House.two(1500).add(BigInteger.valueOf(12345)));
            h.setDecimal(1, new BigDecimal(House.ten(1000).subtract(BigInteger.ONE), 100));
            h.x.put(2, 1, Double.doubleToRawLongBits(-Double.MIN_VALUE));
            h.tape("%1$S|%2$-9c|%3$b");
        };
        long quiet = made(setup, x -> { });
        due("feed and wipe", quiet, setup, x -> {
            x.feed(8, 0x3131313131313131L);
            x.wipe();
        });
        due("read", quiet, setup, x -> {
            x.wipe();
            x.feed(8, 0x3131653131312e31L);
            x.read(2, 5, 10);
            x.feed(8, 0x3131653131312e31L);
            x.read(1, 5, 10);
            x.feed(8, 0x3131313131313131L);
            x.read(0, 5, 10);
        });
        due("put and told", quiet, setup, x -> {
            x.put(1, 5, -77);
            x.told(1, 1, 999);
            x.told(2, 1, 1);
            x.told(0, 1, 3);
        });
        due("compare", quiet, setup, x -> {
            x.compare(0, 1, 2);
            x.compare(1, 1, 2);
            x.compare(2, 1, 2);
        });
        for (int how = 0; how < 12; how++) {
            int which = how;
            due("whole " + how, quiet, setup, x -> x.whole(which, 2, which == 2 ? 4 : 1, 5));
        }
        due("wholeBy", quiet, setup, x -> {
            x.wholeBy(1, 1, 7, 5);
            x.wholeBy(2, 1, -7, 5);
            x.wholeBy(0, 3, 77, 5);
        });
        due("powerModulo", quiet, setup, x -> x.powerModulo(2, 3, 1, 5));
        due("decimals", quiet, setup, x -> {
            x.decimal(3, 1, 2, 5);
            x.decimalBy(2, 1, 2, 5);
            x.divide(1, 2, 5, 100, 4);
            x.quotient(2, 1, 5, 1000, 4);
            x.shape(2, 1, 5, 900, 4);
        });
        due("convert", quiet, setup, x -> {
            x.convert(2, 1, 1, 5);
            x.convert(1, 1, 2, 5);
            x.convert(2, 1, 0, 5);
            x.convert(0, 1, 3, 5);
        });
        due("print", quiet, setup, x -> {
            x.print(0, 1, 7);
            x.print(1, 1, 2);
            x.print(2, 1, 0);
            x.print(2, 1, 1);
            x.figures(2, 1, true, 800, 1);
            x.paperAt(3);
        });
        due("argument", quiet, setup, x -> {
            x.argument(0, 3);
            x.argument(7, 0);
            x.argument(8, 0);
        });
        due("format", quiet, setup, x -> {
            x.format();
            x.feed(8, 0x7c732430303124L + 1);
            x.format();
            x.wipe();
        });
    }

    private static void due(String what, long quiet, Twins.Setup setup, Twins.Act act) {
        long more = made(setup, act) - quiet;
        House.due(what + " makes " + more + " bytes in " + CALLS + " calls", more < (long) CALLS * LEAST_OBJECT, true);
    }

    /** The bytes that the calls of an object made; the least of some rounds, since the machine makes some of its own at first. */
    private static long made(Twins.Setup setup, Twins.Act act) {
        long least = Long.MAX_VALUE;
        for (int round = 0; round < 3; round++) {
            House h = new House();
            setup.make(h);
            act.call(h.x);
            long before = allocated();
            for (int i = 0; i < CALLS; i++) {
                act.call(h.x);
            }
            least = Math.min(least, allocated() - before);
        }
        return least;
    }

    /** 0 always, on a machine that does not count them. */
    private static long allocated() {
        try {
            Method count = Class.forName("com.sun.management.ThreadMXBean").getMethod("getThreadAllocatedBytes", long.class);
            return (long) count.invoke(ManagementFactory.getThreadMXBean(), Thread.currentThread().getId());
        } catch (ReflectiveOperationException e) {
            return 0;
        }
    }
}
