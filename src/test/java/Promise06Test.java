import java.math.BigDecimal;
import java.math.BigInteger;

/** Promise 6: told. */
public final class Promise06Test {
    public static void main(String[] args) {
        House h = new House();
        BigInteger far = House.two(2048).subtract(BigInteger.ONE);
        whole(h, BigInteger.ZERO, 0, 0, 0, 0, -1);
        whole(h, BigInteger.ONE, 1, 1, 1, 1, 0);
        whole(h, BigInteger.ONE.negate(), -1, -1, 0, 0, 0);
        whole(h, BigInteger.valueOf(-8), -8, -1, 3, 3, 3);
        whole(h, BigInteger.valueOf(-9), -9, -1, 4, 1, 0);
        whole(h, BigInteger.valueOf(12), 12, 1, 4, 2, 2);
        whole(h, far, -1, 1, 2048, 2048, 0);
        whole(h, far.negate(), 1, -1, 2048, 2047, 0);
        whole(h, House.two(2047).negate(), 0, -1, 2047, 2047, 2047);
        whole(h, House.two(64).add(BigInteger.TEN), 10, 1, 65, 3, 1);
        decimals(h);
        floats(h);
        wrongCalls(h);
        House.end();
    }

    private static void whole(House h, BigInteger a, long low, int sign, int length, int others, int lowest) {
        h.setWhole(2, a);
        long[] want = {low, sign, length, others, lowest};
        for (int what = 0; what < 5; what++) {
            House.due("told " + what + " of " + a, h.x.told(0, 2, what), want[what]);
        }
    }

    private static void decimals(House h) {
        h.setDecimal(3, new BigDecimal("-120.340"));
        long[] want = {-1, 3, 6, 1, 2, 0, 3, 4, 0};
        for (int what = 0; what < want.length; what++) {
            House.due("told " + what + " of a decimal", h.x.told(1, 3, what), want[what]);
        }
        h.refuses("no such digit", House.ILLEGAL_ARGUMENT, () -> h.x.told(1, 3, 9));
        h.refuses("no such digit far off", House.ILLEGAL_ARGUMENT, () -> h.x.told(1, 3, Integer.MAX_VALUE));
        h.setDecimal(4, new BigDecimal("0E-5"));
        House.due("0 has one digit", h.x.told(1, 4, 2), 1);
        House.due("which is 0", h.x.told(1, 4, 3), 0);
        House.due("its sign", h.x.told(1, 4, 0), 0);
        House.due("its scale", h.x.told(1, 4, 1), 5);
        h.refuses("no second digit", House.ILLEGAL_ARGUMENT, () -> h.x.told(1, 4, 4));
        h.setDecimal(5, new BigDecimal(House.ten(1000).subtract(BigInteger.TWO), -10000));
        House.due("a thousand digits", h.x.told(1, 5, 2), 1000);
        House.due("the first", h.x.told(1, 5, 3), 9);
        House.due("the last", h.x.told(1, 5, 1002), 8);
        House.due("the scale", h.x.told(1, 5, 1), -10000);
        h.refuses("no more digits", House.ILLEGAL_ARGUMENT, () -> h.x.told(1, 5, 1003));
    }

    private static void floating(House h, int kind, long bits, long c, int i) {
        h.x.put(kind, 6, bits);
        House.due("bits", h.x.told(kind, 6, 0), bits);
        House.due("c of " + bits, h.x.told(kind, 6, 1), c);
        House.due("i of " + bits, h.x.told(kind, 6, 2), i);
    }

    private static void floats(House h) {
        floating(h, 2, 0, 0, 0);
        floating(h, 2, Long.MIN_VALUE, 0, 0);
        floating(h, 3, 0x80000000L, 0, 0);
        floating(h, 2, 1, 49, -325);
        floating(h, 3, 1, 14, -46);
        floating(h, 2, Double.doubleToRawLongBits(-100.0), 1, 2);
        floating(h, 2, Double.doubleToRawLongBits(0.3), 3, -1);
        floating(h, 2, Double.doubleToRawLongBits(2e23), 2, 23);
        floating(h, 2, Double.doubleToRawLongBits(Double.MAX_VALUE), 17976931348623157L, 292);
        floating(h, 3, Float.floatToRawIntBits(Float.MAX_VALUE), 34028235, 31);
        floating(h, 2, Double.doubleToRawLongBits(9007199254740992.0), 9007199254740992L, 0);
        floating(h, 2, 2, 99, -325);
        for (long bits : new long[] {0x7ff0000000000000L, 0xfff0000000000000L, 0x7ff8000000000000L}) {
            h.x.put(2, 7, bits);
            House.due("bits", h.x.told(2, 7, 0), bits);
            h.refuses("c of what is not finite", House.ARITHMETIC, () -> h.x.told(2, 7, 1));
            h.refuses("i of what is not finite", House.ARITHMETIC, () -> h.x.told(2, 7, 2));
            h.refuses("what counts first", House.ILLEGAL_ARGUMENT, () -> h.x.told(2, 7, 3));
        }
        h.x.put(3, 7, 0x7f800000L);
        h.refuses("c of narrow infinity", House.ARITHMETIC, () -> h.x.told(3, 7, 1));
    }

    private static void wrongCalls(House h) {
        int[][] calls = {{-1, 0, 0}, {4, 0, 0}, {0, -1, 0}, {0, 10, 0}, {0, 0, -1}, {0, 0, 5}, {1, 0, -1}, {1, 10, 0},
            {2, 0, -1}, {2, 0, 3}, {3, 0, 3}, {3, -1, 0}};
        for (int[] call : calls) {
            h.refuses("told " + call[0] + " " + call[1] + " " + call[2], House.ILLEGAL_ARGUMENT,
                    () -> h.x.told(call[0], call[1], call[2]));
        }
    }
}
