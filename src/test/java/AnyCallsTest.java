import java.math.BigInteger;
import java.util.Random;

/** Calls of any kind with any arguments: nothing but what the face names is thrown, and that changes nothing. */
public final class AnyCallsTest {
    private static final Random RANDOM = new Random(512);
    private static final String[] TEXTS = {"", "0", "-1", "12345678901234567890", "0.1", "-1e-30", "9e9999", "1e-10000",
        "NaN", "-Infinity", "0x1.8p-1070", "4.9e-324", "1.7976931348623157e308", "zz", "%", "%s|%<S", "%d", "%,.3f", "%g|%e",
        "%9$s", "%-5000d", "%4000s", "%c%b%n%%", "99999", "1e", "5e-40", "3e10", "0e10000"};

    public static void main(String[] args) {
        for (int round = 0; round < 200; round++) {
            House h = new House();
            fill(h);
            for (int call = 0; call < 300; call++) {
                any(h, call % 20 == 0);
            }
        }
        House.end();
    }

    private static void fill(House h) {
        for (int a = 0; a < 10; a++) {
            BigInteger value = new BigInteger(RANDOM.nextInt(2049), RANDOM);
            h.setWhole(a, RANDOM.nextBoolean() ? value : value.negate());
            value = new BigInteger(RANDOM.nextInt(3320), RANDOM);
            h.setDecimal(a, new java.math.BigDecimal(value, RANDOM.nextInt(20001) - 10000));
            h.x.put(2, a, RANDOM.nextLong());
            h.x.put(3, a, RANDOM.nextInt() & 0xffffffffL);
        }
    }

    /** Mostly what there is, sometimes what there is not. */
    private static int some(int least, int most) {
        int[] odd = {least - 1, most + 1, Integer.MIN_VALUE, Integer.MAX_VALUE, -1, 0};
        return RANDOM.nextInt(40) == 0 ? odd[RANDOM.nextInt(odd.length)] : least + RANDOM.nextInt(most - least + 1);
    }

    private static int register() {
        return some(0, 9);
    }

    private static void any(House h, boolean watched) {
        if (watched || RANDOM.nextInt(3) == 0) {
            h.tape(TEXTS[RANDOM.nextInt(TEXTS.length)]);
        }
        int which = RANDOM.nextInt(19);
        long seed = RANDOM.nextLong();
        int allowed = which == 16 ? 14 : which == 17 ? 8 : which == 1 || which == 18 ? 0 : which == 0 || which == 3 || which == 14 ? 2 : 6;
        String before = watched ? h.state() : "";
        int thrown;
        try {
            thrown = House.thrown(() -> call(h.x, which, new Random(seed)));
        } catch (RuntimeException e) {
            thrown = 99;
            System.out.println("call " + which + " threw " + e);
        }
        House.due("call " + which + " threw " + thrown, thrown == 0 || thrown < 4 && (allowed >> thrown & 1) == 1, true);
        if (watched && thrown != 0) {
            House.due("call " + which + " that threw changed nothing", h.state(), before);
        }
    }

    private static void call(NumberHouse x, int which, Random own) {
        int n = own.nextInt(4) == 0 ? own.nextInt() : own.nextInt(140) - 70;
        switch (which) {
            case 0: x.feed(some(1, 8), own.nextLong()); break;
            case 1: x.wipe(); break;
            case 2: x.read(some(0, 3), register(), own.nextInt(3) == 0 ? some(2, 36) : 10); break;
            case 3: x.put(some(0, 3), register(), own.nextLong() >> own.nextInt(64)); break;
            case 4: x.told(some(0, 3), register(), some(0, 5)); break;
            case 5: x.compare(some(0, 3), register(), register()); break;
            case 6: x.whole(some(0, 11), register(), register(), register()); break;
            case 7: x.wholeBy(some(0, 2), register(), n, register()); break;
            case 8: x.decimal(some(0, 3), register(), register(), register()); break;
            case 9: x.decimalBy(some(0, 2), register(), n, register()); break;
            case 10: x.divide(register(), register(), register(), some(-10000, 10000), some(0, 7)); break;
            case 11: x.quotient(register(), register(), register(), some(0, 1000), some(0, 7)); break;
            case 12: x.shape(some(0, 2), register(), register(), some(-10, 1000), some(0, 7)); break;
            case 13: x.convert(some(0, 3), register(), some(0, 3), register()); break;
            case 14: x.print(some(0, 3), register(), own.nextBoolean() ? some(0, 2) : some(2, 36)); break;
            case 15: x.figures(some(2, 3), register(), own.nextBoolean(), some(0, 1100), some(0, 3)); break;
            case 16: x.argument(own.nextInt(8) == 0 ? 8 : some(0, 7), own.nextBoolean() ? register() : n); break;
            case 17: x.format(); break;
            default: x.paperAt(n);
        }
    }
}
