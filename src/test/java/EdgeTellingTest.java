import java.math.BigDecimal;
import java.math.BigInteger;

/** The sentences of the promises 6 and 7 that name an edge: told and compare. */
public final class EdgeTellingTest {
    private static final BigInteger ONE = BigInteger.ONE;
    private static final BigInteger MOST = House.two(2048).subtract(ONE);

    public static void main(String[] args) {
        lowestBits();
        signs();
        lengths();
        otherBits();
        lowestOne();
        whatOfWholes();
        ofDecimals();
        digits();
        ofFloats();
        notFinite();
        comparedWholes();
        comparedDecimals();
        comparedFloats();
        minusZero();
        noNumbers();
        House.end();
    }

    private static void whole(BigInteger a, int what, long want) {
        House h = new House();
        h.setWhole(4, a);
        House.due("told " + what + " of " + a, h.x.told(0, 4, what), want);
    }

    private static void lowestBits() {
        House.sentence("Of wholes: the 64 lowest bits as a long (what = 0)");
        BigInteger[] values = {BigInteger.ZERO, ONE, House.two(62), House.two(63).subtract(ONE), House.two(63), House.two(63).add(ONE), House.two(64).subtract(ONE),
            House.two(64), House.two(64).add(ONE), House.two(93), MOST, House.two(2047), House.two(31).subtract(ONE), House.two(31)};
        for (BigInteger value : values) {
            whole(value, 0, value.longValue());
            whole(value.negate(), 0, value.negate().longValue());
        }
    }

    private static void signs() {
        House.sentence("the sign, -1, 0 or 1 (1)");
        whole(BigInteger.ZERO, 1, 0);
        whole(ONE, 1, 1);
        whole(ONE.negate(), 1, -1);
        whole(MOST, 1, 1);
        whole(MOST.negate(), 1, -1);
        whole(House.two(64), 1, 1);
    }

    private static void lengths() {
        House.sentence("the least n for which it is below 2 to the n and not below -(2 to the n) (2)");
        whole(BigInteger.ZERO, 2, 0);
        whole(ONE.negate(), 2, 0);
        for (int n : new int[] {0, 1, 2, 29, 30, 31, 32, 61, 62, 63, 64, 92, 93, 94, 1023, 1024, 2046, 2047}) {
            BigInteger power = House.two(n);
            whole(power.subtract(ONE), 2, n);
            whole(power, 2, n + 1);
            whole(power.negate(), 2, n);
            whole(power.negate().subtract(ONE), 2, n + 1);
        }
        whole(MOST, 2, 2048);
        whole(MOST.negate(), 2, 2048);
    }

    private static void otherBits() {
        House.sentence("how many bits are other ones than those far up (3)");
        whole(BigInteger.ZERO, 3, 0);
        whole(ONE.negate(), 3, 0);
        whole(ONE, 3, 1);
        for (int n : new int[] {1, 30, 31, 32, 62, 63, 64, 2047}) {
            BigInteger power = House.two(n);
            whole(power, 3, 1);
            whole(power.subtract(ONE), 3, n);
            whole(power.negate(), 3, n);
            whole(power.negate().subtract(ONE), 3, 1);
        }
        whole(MOST, 3, 2048);
        whole(MOST.negate(), 3, 2047);
    }

    private static void lowestOne() {
        House.sentence("the least i for which bit i is 1, NONE for 0 (4)");
        whole(BigInteger.ZERO, 4, NumberHouse.NONE);
        Twins.answers("NONE for 0", NumberHouse.NONE, Twins.furnished(h -> h.x.put(0, 4, 0)), x -> x.told(0, 4, 4));
        for (int n : new int[] {0, 1, 30, 31, 32, 61, 62, 63, 64, 93, 2046, 2047}) {
            whole(House.two(n), 4, n);
            whole(House.two(n).negate(), 4, n);
        }
        whole(MOST, 4, 0);
        whole(MOST.negate(), 4, 0);
        whole(MOST.subtract(ONE), 4, 1);
    }

    private static void whatOfWholes() {
        House.sentence("or a number of what to do or tell (how, what, style) that there is not");
        Twins.range("told of a whole", 2, 0, 4, (x, n) -> x.told(n[0], n[1], n[2]), 0, 3, 0);
        Twins.range("told of a wide float", 2, 0, 2, (x, n) -> x.told(n[0], n[1], n[2]), 2, 3, 0);
        Twins.range("told of a narrow float", 2, 0, 2, (x, n) -> x.told(n[0], n[1], n[2]), 3, 3, 0);
    }

    private static void ofDecimals() {
        House.sentence("Of decimals: the sign (0), the scale (1), the precision (2)");
        String[] texts = {"0", "0E-10000", "0E+10000", "1E-10000", "-1E+10000", "-7", "10", "-99", "100", "123.456"};
        long[][] want = {{0, 0, 1}, {0, 10000, 1}, {0, -10000, 1}, {1, 10000, 1}, {-1, -10000, 1}, {-1, 0, 1}, {1, 0, 2}, {-1, 0, 2}, {1, 0, 3}, {1, 3, 6}};
        for (int i = 0; i < texts.length; i++) {
            House h = new House();
            h.setDecimal(4, new BigDecimal(texts[i]));
            for (int what = 0; what < 3; what++) {
                House.due("told " + what + " of " + texts[i], h.x.told(1, 4, what), want[i][what]);
            }
        }
    }

    private static void digits() {
        House.sentence("the digit at place what - 3 of the number, from the highest one on (3 and above)");
        String thousand = "12345678901" + new String(new char[987]).replace('\0', '5') + "07";
        for (String number : new String[] {"0", "7", "10", "12345678909", thousand}) {
            for (String sign : new String[] {"", "-"}) {
                House h = new House();
                h.setDecimal(4, new BigDecimal(new BigInteger(sign + number), 7));
                for (int i = 0; i < number.length(); i += i < 12 || i > number.length() - 5 ? 1 : 100) {
                    House.due("digit " + i, h.x.told(1, 4, 3 + i), number.charAt(i) - '0');
                }
                House.due("the last digit", h.x.told(1, 4, 2 + number.length()), number.charAt(number.length() - 1) - '0');
                Twins.Setup setup = Twins.furnished(g -> g.setDecimal(4, new BigDecimal(new BigInteger(sign + number), 7)));
                for (int what : new int[] {3 + number.length(), 4 + number.length(), -1, Integer.MIN_VALUE, Integer.MAX_VALUE}) {
                    Twins.refuses("told " + what, House.ILLEGAL_ARGUMENT, setup, x -> x.told(1, 4, what));
                }
            }
        }
    }

    private static void ofFloats() {
        House.sentence("Of floats: the bits (0), the c of the shortest decimal that has no 0 at its end, 0 for 0 (1), the i that goes with it, 0 for 0 (2)");
        long[][] rows = {
            // kind, bits, c, i
            {2, 0, 0, 0}, {2, Long.MIN_VALUE, 0, 0}, {3, 0, 0, 0}, {3, 0x80000000L, 0, 0},
            {2, 1, 49, -325}, {2, Long.MIN_VALUE | 1, 49, -325}, {2, 0x7fefffffffffffffL, 17976931348623157L, 292}, {2, 0xffefffffffffffffL, 17976931348623157L, 292},
            {3, 1, 14, -46}, {3, 0x80000001L, 14, -46}, {3, 0x7f7fffffL, 34028235, 31},
            {2, Double.doubleToRawLongBits(10), 1, 1}, {2, Double.doubleToRawLongBits(1000), 1, 3}, {2, Double.doubleToRawLongBits(1200), 12, 2},
            {2, Double.doubleToRawLongBits(1), 1, 0}, {2, Double.doubleToRawLongBits(0.5), 5, -1}, {2, Double.doubleToRawLongBits(1e22), 1, 22},
            {3, Float.floatToRawIntBits(1e10f), 1, 10}, {3, Float.floatToRawIntBits(0.25f), 25, -2},
        };
        for (long[] row : rows) {
            House h = new House();
            h.x.put((int) row[0], 4, row[1]);
            for (int what = 0; what < 3; what++) {
                House.due("told " + what + " of " + Long.toHexString(row[1]), h.x.told((int) row[0], 4, what), row[1 + what]);
                House.due("told " + what + " of 0 behind it", h.x.told((int) row[0], 0, what), 0);
            }
        }
    }

    private static void notFinite() {
        House.sentence("ArithmeticException for 1 and 2: it is not finite.");
        long[][] rows = {{2, 0x7ff0000000000000L}, {2, 0xfff0000000000000L}, {2, 0x7ff0000000000001L}, {2, 0x7ff8000000000000L}, {2, -1},
            {3, 0x7f800000L}, {3, 0xff800000L}, {3, 0x7f800001L}, {3, 0xffffffffL}};
        for (long[] row : rows) {
            int kind = (int) row[0];
            Twins.Setup setup = Twins.furnished(h -> h.x.put(kind, 4, row[1]));
            Twins.answers("the bits", row[1], setup, x -> x.told(kind, 4, 0));
            Twins.refuses("c", House.ARITHMETIC, setup, x -> x.told(kind, 4, 1));
            Twins.refuses("i", House.ARITHMETIC, setup, x -> x.told(kind, 4, 2));
            Twins.refuses("what there is not", House.ILLEGAL_ARGUMENT, setup, x -> x.told(kind, 4, 3));
            Twins.refuses("what there is not", House.ILLEGAL_ARGUMENT, setup, x -> x.told(kind, 4, -1));
            Twins.refuses("no register", House.ILLEGAL_ARGUMENT, setup, x -> x.told(kind, 10, 1));
        }
    }

    private static void inOrder(int kind, Twins.Setup low, Twins.Setup high) {
        House h = new House();
        low.make(h);
        high.make(h);
        House.due("less", h.x.compare(kind, 1, 2), -1);
        House.due("greater", h.x.compare(kind, 2, 1), 1);
        House.due("the same", h.x.compare(kind, 1, 1), 0);
        House.due("the same", h.x.compare(kind, 2, 2), 0);
    }

    private static void comparedWholes() {
        House.sentence("-1, 0 or 1, as the value of a is less than, the same as, or greater than that of b");
        BigInteger[] values = {MOST, House.two(2047), House.two(64), House.two(63), House.two(62), House.two(31), ONE, BigInteger.ZERO, BigInteger.valueOf(-5),
            House.two(31).negate(), House.two(62).negate(), House.two(2047).negate(), MOST.negate().add(ONE)};
        for (BigInteger value : values) {
            inOrder(0, h -> h.setWhole(1, value.subtract(ONE)), h -> h.setWhole(2, value));
        }
        inOrder(0, h -> h.setWhole(1, MOST.negate()), h -> h.setWhole(2, MOST));
    }

    private static void comparedDecimals() {
        House.sentence("-1, 0 or 1, as the value of a is less than, the same as, or greater than that of b");
        String nines = House.ten(1000).subtract(ONE).toString();
        String[][] rows = {{"0", "1E-10000"}, {"-1E-10000", "0"}, {"-1E-10000", "1E-10000"}, {"9.9E+9999", "1E+10000"}, {"1E-10000", "1E+10000"}, {"-1E+10000", "-1E-10000"},
            {"1", "1." + nines.substring(2).replace('9', '0') + "1"}, {nines, "1E+1000"}, {"1E+999", nines}, {"0E+10000", "1E-10000"}, {"-1E-10000", "0E-10000"},
            {"9.99", "10"}, {"-10", "-9.99"}, {"0.999", "1.0"}, {"99E-10000", "1E-9998"}};
        for (String[] row : rows) {
            inOrder(1, h -> h.setDecimal(1, new BigDecimal(row[0])), h -> h.setDecimal(2, new BigDecimal(row[1])));
        }
        String[][] same = {{"1", "1.000"}, {"1E+999", House.ten(999).toString()}, {"0E+10000", "0E-10000"}, {"-10E-10000", "-1E-9999"}, {"100E+9998", "1E+10000"}};
        for (String[] row : same) {
            House h = new House();
            h.setDecimal(1, new BigDecimal(row[0]));
            h.setDecimal(2, new BigDecimal(row[1]));
            House.due("the same", h.x.compare(1, 1, 2), 0);
            House.due("the same", h.x.compare(1, 2, 1), 0);
        }
    }

    private static void comparedFloats() {
        House.sentence("-1, 0 or 1, as the value of a is less than, the same as, or greater than that of b");
        long[] wide = {0xfff0000000000000L, 0xffefffffffffffffL, 0xbff0000000000001L, 0xbff0000000000000L, 0x8010000000000000L, 0x800fffffffffffffL, 0x8000000000000001L,
            0, 1, 0x000fffffffffffffL, 0x0010000000000000L, 0x3ff0000000000000L, 0x3ff0000000000001L, 0x7fefffffffffffffL, 0x7ff0000000000000L};
        long[] narrow = {0xff800000L, 0xff7fffffL, 0xbf800001L, 0xbf800000L, 0x80800000L, 0x807fffffL, 0x80000001L, 0, 1, 0x007fffffL, 0x00800000L, 0x3f800000L, 0x3f800001L,
            0x7f7fffffL, 0x7f800000L};
        for (int i = 0; i + 1 < wide.length; i++) {
            int at = i;
            inOrder(2, h -> h.x.put(2, 1, wide[at]), h -> h.x.put(2, 2, wide[at + 1]));
            inOrder(3, h -> h.x.put(3, 1, narrow[at]), h -> h.x.put(3, 2, narrow[at + 1]));
        }
        inOrder(2, h -> h.x.put(2, 1, wide[0]), h -> h.x.put(2, 2, wide[14]));
        inOrder(3, h -> h.x.put(3, 1, narrow[0]), h -> h.x.put(3, 2, narrow[14]));
    }

    private static void minusZero() {
        House.sentence("(0 and minus zero are the same)");
        for (int kind = 2; kind < 4; kind++) {
            long minus = kind == 2 ? Long.MIN_VALUE : 0x80000000L;
            House h = new House();
            h.x.put(kind, 1, minus);
            House.due("0 and minus zero", h.x.compare(kind, 0, 1), 0);
            House.due("minus zero and 0", h.x.compare(kind, 1, 0), 0);
            House.due("minus zero and itself", h.x.compare(kind, 1, 1), 0);
            h.x.put(kind, 2, 1);
            House.due("minus zero and the next above", h.x.compare(kind, 1, 2), -1);
            h.x.put(kind, 2, minus | 1);
            House.due("minus zero and the next below", h.x.compare(kind, 1, 2), 1);
        }
    }

    private static void noNumbers() {
        House.sentence("ArithmeticException: one of them is no number.");
        long[][] rows = {{2, 0x7ff0000000000001L}, {2, 0x7ff8000000000000L}, {2, 0xfff0000000000001L}, {2, -1}, {3, 0x7f800001L}, {3, 0x7fc00000L}, {3, 0xff800001L}, {3, 0xffffffffL}};
        for (long[] row : rows) {
            int kind = (int) row[0];
            Twins.Setup setup = Twins.furnished(h -> h.x.put(kind, 4, row[1]));
            Twins.refuses("the first", House.ARITHMETIC, setup, x -> x.compare(kind, 4, 5));
            Twins.refuses("the second", House.ARITHMETIC, setup, x -> x.compare(kind, 5, 4));
            Twins.refuses("both", House.ARITHMETIC, setup, x -> x.compare(kind, 4, 4));
            Twins.refuses("no register", House.ILLEGAL_ARGUMENT, setup, x -> x.compare(kind, 4, 10));
            Twins.refuses("no register", House.ILLEGAL_ARGUMENT, setup, x -> x.compare(kind, -1, 4));
            Twins.answers("others", -1, setup, x -> x.compare(kind, 3, 5));
        }
    }
}
