import java.math.BigDecimal;
import java.math.BigInteger;

/** The edges of what floats are printed as: shortest decimal, short text, hexadecimal, fixed and scientific text. */
public final class EdgeFloatPrintTest {
    public static void main(String[] args) {
        leastLength();
        halfWay();
        atLeastTwo();
        nearest();
        evenOfTwo();
        notANumber();
        nought();
        writtenOut();
        withAPower();
        hexadecimalFirst();
        hexadecimalFraction();
        hexadecimalPower();
        ways();
        fixed();
        scientific();
        House.end();
    }

    private static void wide(double x, String want) {
        House h = new House();
        h.x.put(2, 1, Double.doubleToRawLongBits(x));
        House.due("wide " + x, h.printed(2, 1, 0), want);
        h.x.put(2, 1, Double.doubleToRawLongBits(-x));
        House.due("wide " + -x, h.printed(2, 1, 0), "-" + want);
    }

    private static void narrow(float x, String want) {
        House h = new House();
        h.x.put(3, 1, Float.floatToRawIntBits(x) & 0xffffffffL);
        House.due("narrow " + x, h.printed(3, 1, 0), want);
        h.x.put(3, 1, Float.floatToRawIntBits(-x) & 0xffffffffL);
        House.due("narrow " + -x, h.printed(3, 1, 0), "-" + want);
    }

    private static void shortest(int kind, long bits, long c, int i) {
        House h = new House();
        h.x.put(kind, 1, bits);
        House.due("c of " + Long.toHexString(bits), h.x.told(kind, 1, 1), c);
        House.due("i of " + Long.toHexString(bits), h.x.told(kind, 1, 2), i);
    }

    private static void leastLength() {
        House.sentence("Let R be the decimals that round to x; n the least length of one in R");
        shortest(2, 0x3fb999999999999aL, 1, -1);
        shortest(2, 0x3fb999999999999bL, 10000000000000002L, -17);
        shortest(2, 0x3fb9999999999999L, 9999999999999999L, -17);
        shortest(2, 0x7fefffffffffffffL, 17976931348623157L, 292);
        shortest(2, 0x44b52d02c7e14af6L, 1, 23);
        shortest(2, 0x44b52d02c7e14af7L, 10000000000000001L, 7);
        shortest(2, 0x44b52d02c7e14af5L, 9999999999999997L, 7);
        shortest(2, 0x4340000000000000L, 9007199254740992L, 0);
        shortest(2, 0x4340000000000001L, 9007199254740994L, 0);
        shortest(2, 0x433fffffffffffffL, 9007199254740991L, 0);
        shortest(2, 0x0010000000000000L, 22250738585072014L, -324);
        shortest(2, 0x000fffffffffffffL, 2225073858507201L, -323);
        shortest(3, 0x3dcccccdL, 1, -1);
        shortest(3, 0x3dccccceL, 10000001L, -8);
        shortest(3, 0x7f7fffffL, 34028235, 31);
        shortest(3, 0x00800000L, 11754944, -45);
        shortest(3, 0x007fffffL, 11754942, -45);
        shortest(3, 0x4b800000L, 16777216, 0);
        shortest(3, 0x4b800001L, 16777218, 0);
    }

    /** Steps of 4: a decimal just half way to the next float rounds to the even one of the two. */
    private static void halfWay() {
        House.sentence("Let R be the decimals that round to x");
        long wide = 18014398509481984L;
        shortest(2, Double.doubleToRawLongBits(wide + 4 * 1), 18014398509481988L, 0);
        shortest(2, Double.doubleToRawLongBits(wide + 4 * 6), 1801439850948201L, 1);
        shortest(2, Double.doubleToRawLongBits(wide + 4 * 7), 18014398509482012L, 0);
        shortest(2, Double.doubleToRawLongBits(wide + 4 * 2), 1801439850948199L, 1);
        long narrow = 33554432;
        shortest(3, Float.floatToRawIntBits(narrow + 4 * 9), 33554468, 0);
        shortest(3, Float.floatToRawIntBits(narrow + 4 * 4), 3355445, 1);
        shortest(3, Float.floatToRawIntBits(narrow + 4 * 5), 33554452, 0);
        shortest(3, Float.floatToRawIntBits(narrow + 4 * 10), 3355447, 1);
        for (int k = 1; k < 60; k++) {
            checkNearest(2, Double.doubleToRawLongBits(wide + 4 * k), BigDecimal.valueOf(wide + 4 * k));
            checkNearest(3, Float.floatToRawIntBits(narrow + 4 * k), BigDecimal.valueOf(narrow + 4 * k));
        }
    }

    private static void atLeastTwo() {
        House.sentence("n the least length of one in R, but 2 if that is 1");
        shortest(2, 1, 49, -325);
        shortest(2, 2, 99, -325);
        shortest(2, 3, 15, -324);
        shortest(2, 4, 2, -323);
        shortest(2, 5, 25, -324);
        shortest(3, 1, 14, -46);
        shortest(3, 2, 28, -46);
        shortest(3, 3, 42, -46);
        shortest(3, 4, 56, -46);
        shortest(3, 5, 7, -45);
        shortest(2, Double.doubleToRawLongBits(2e-3), 2, -3);
    }

    /** Of those of the least length the nearest, so that no longer one has to tell it from its neighbours. */
    private static void nearest() {
        House.sentence("Of all in R with the length n the shortest decimal is the one nearest to x");
        long[] wide = {1, 2, 3, 7, 0x0000000000000fffL, 0x000fffffffffffffL, 0x0010000000000000L, 0x0020000000000000L, 0x3ff0000000000000L,
            0x3ff0000000000001L, 0x3fd5555555555555L, 0x4009999999999999L, 0x4030000000000000L, 0x7fe0000000000000L, 0x7fefffffffffffffL,
            0x5fd0000000000000L, 0x1e80000000000000L, 0x44b0000000000000L};
        for (long bits : wide) {
            checkNearest(2, bits, new BigDecimal(Double.longBitsToDouble(bits)));
        }
        long[] narrow = {1, 2, 3, 7, 0xfff, 0x007fffff, 0x00800000, 0x01000000, 0x3f800000, 0x3f800001, 0x3eaaaaab, 0x40400000, 0x7f000000,
            0x7f7fffff, 0x5f000000, 0x1f000000, 0x4c000000};
        for (long bits : narrow) {
            checkNearest(3, bits, new BigDecimal(Float.intBitsToFloat((int) bits)));
        }
    }

    /** Steps of a quarter: the last figure of a fourth or of three fourths is as near to two tenths. */
    private static void evenOfTwo() {
        House.sentence("of two such that whose c, of n figures, is even");
        shortest(2, Double.doubleToRawLongBits(1125899906842624.25), 11258999068426242L, -1);
        shortest(2, Double.doubleToRawLongBits(1125899906842624.75), 11258999068426248L, -1);
        shortest(2, Double.doubleToRawLongBits(1125899906842625.25), 11258999068426252L, -1);
        shortest(2, Double.doubleToRawLongBits(-1125899906842624.25), 11258999068426242L, -1);
        shortest(2, Double.doubleToRawLongBits(2251799813685247.25), 22517998136852472L, -1);
        shortest(2, Double.doubleToRawLongBits(2251799813685247.75), 22517998136852478L, -1);
        shortest(2, Double.doubleToRawLongBits(1125899906842624.5), 11258999068426245L, -1);
        shortest(3, Float.floatToRawIntBits(2097152.25f), 20971522, -1);
        shortest(3, Float.floatToRawIntBits(2097152.75f), 20971528, -1);
        shortest(3, Float.floatToRawIntBits(4194303.25f), 41943032, -1);
        shortest(3, Float.floatToRawIntBits(4194303.75f), 41943038, -1);
        wide(1125899906842624.25, "1.1258999068426242E15");
        narrow(2097152.75f, "2097152.8");
    }

    private static void checkNearest(int kind, long bits, BigDecimal x) {
        House h = new House();
        h.x.put(kind, 1, bits);
        BigDecimal got = BigDecimal.valueOf(h.x.told(kind, 1, 1)).scaleByPowerOfTen((int) h.x.told(kind, 1, 2));
        int first = x.precision() - x.scale();
        for (int n = 2; n <= 18; n++) {
            BigDecimal low = x.setScale(n - first, java.math.RoundingMode.DOWN);
            BigDecimal high = low.add(BigDecimal.ONE.movePointRight(first - n));
            boolean lowIn = low.signum() > 0 && roundsTo(kind, low, bits);
            boolean highIn = roundsTo(kind, high, bits);
            if (lowIn || highIn) {
                boolean takeHigh = !lowIn || highIn && high.subtract(x).compareTo(x.subtract(low)) < 0;
                House.due("the nearest of " + n + " figures", got.compareTo(takeHigh ? high : low), 0);
                return;
            }
        }
        House.due("a length was found", false, true);
    }

    private static boolean roundsTo(int kind, BigDecimal value, long bits) {
        return kind == 2 ? Double.doubleToRawLongBits(value.doubleValue()) == bits : Float.floatToRawIntBits(Float.parseFloat(value.toString())) == (int) bits;
    }

    private static void notANumber() {
        House.sentence("SHORT TEXT: no number: NaN. Others: - for the sign 1, then: infinite: Infinity");
        long[][] rows = {{2, 0x7ff8000000000000L}, {2, 0xfff8000000000000L}, {2, 0x7ff0000000000001L}, {2, -1}, {3, 0x7fc00000L}, {3, 0xffc00000L}, {3, 0xff800001L}};
        House h = new House();
        for (long[] row : rows) {
            h.x.put((int) row[0], 1, row[1]);
            House.due("short", h.printed((int) row[0], 1, 0), "NaN");
            House.due("hexadecimal", h.printed((int) row[0], 1, 1), "NaN");
        }
        House.sentence("HEXADECIMAL TEXT: as the short text in what is not finite, and for the sign");
        long[] infinite = {0x7ff0000000000000L, 0xfff0000000000000L, 0x7f800000L, 0xff800000L};
        for (int i = 0; i < 4; i++) {
            h.x.put(2 + i / 2, 1, infinite[i]);
            House.due("short", h.printed(2 + i / 2, 1, 0), i % 2 == 0 ? "Infinity" : "-Infinity");
            House.due("hexadecimal", h.printed(2 + i / 2, 1, 1), i % 2 == 0 ? "Infinity" : "-Infinity");
        }
    }

    private static void nought() {
        House.sentence("0: 0.0");
        wide(0.0, "0.0");
        narrow(0.0f, "0.0");
    }

    private static void writtenOut() {
        House.sentence("if x is below 10 to the 7 and not below 10 to the -3: the value written out with a point, at least one figure before it and at least one behind it");
        wide(0.001, "0.001");
        wide(0.0010000000000000002, "0.0010000000000000002");
        wide(0.00123, "0.00123");
        wide(0.01, "0.01");
        wide(0.1, "0.1");
        wide(1, "1.0");
        wide(10, "10.0");
        wide(100.5, "100.5");
        wide(1000000, "1000000.0");
        wide(9999999, "9999999.0");
        wide(9999999.5, "9999999.5");
        wide(9999999.999999998, "9999999.999999998");
        narrow(0.001f, "0.001");
        narrow(0.0010000002f, "0.0010000002");
        narrow(1, "1.0");
        narrow(9999999, "9999999.0");
        narrow(1234567, "1234567.0");
        narrow(123.25f, "123.25");
        House.sentence("no 0 at the end of more than one behind it, and no 0 at the beginning of more than one before it");
        wide(5, "5.0");
        wide(50, "50.0");
        wide(0.5, "0.5");
        wide(0.25, "0.25");
        wide(0.05, "0.05");
        wide(505.05, "505.05");
        narrow(50.5f, "50.5");
    }

    private static void withAPower() {
        House.sentence("else: d, a point, the other figures (0 if there is none), E, and the power of 10 that d stands for, with - if it is below 0");
        wide(9.999999999999998E-4, "9.999999999999998E-4");
        wide(1.0E7, "1.0E7");
        wide(1.0000000000000002E7, "1.0000000000000002E7");
        wide(12345678, "1.2345678E7");
        wide(1e-4, "1.0E-4");
        wide(1e-10, "1.0E-10");
        wide(1e9, "1.0E9");
        wide(1e10, "1.0E10");
        wide(1e100, "1.0E100");
        wide(1e-100, "1.0E-100");
        wide(1.5e300, "1.5E300");
        wide(Double.MIN_VALUE, "4.9E-324");
        wide(Double.MAX_VALUE, "1.7976931348623157E308");
        narrow(9.9999993E-4f, "9.999999E-4");
        narrow(1.0E7f, "1.0E7");
        narrow(1.0000001E7f, "1.0000001E7");
        narrow(Float.MIN_VALUE, "1.4E-45");
        narrow(Float.MAX_VALUE, "3.4028235E38");
    }

    private static void hexadecimal(int kind, long bits, String want) {
        House h = new House();
        h.x.put(kind, 1, bits);
        House.due("hexadecimal of " + Long.toHexString(bits), h.printed(kind, 1, 1), want);
        h.x.put(kind, 1, bits | (kind == 2 ? Long.MIN_VALUE : 0x80000000L));
        House.due("hexadecimal below 0 of " + Long.toHexString(bits), h.printed(kind, 1, 1), "-" + want);
    }

    private static void hexadecimalFirst() {
        House.sentence("0 is 0x0.0p0; if E is above 0: 0x1. and F, else 0x0. and F");
        hexadecimal(2, 0, "0x0.0p0");
        hexadecimal(2, 1, "0x0.0000000000001p-1022");
        hexadecimal(2, 0x000fffffffffffffL, "0x0.fffffffffffffp-1022");
        hexadecimal(2, 0x0010000000000000L, "0x1.0p-1022");
        hexadecimal(2, 0x0010000000000001L, "0x1.0000000000001p-1022");
        hexadecimal(2, 0x7fefffffffffffffL, "0x1.fffffffffffffp1023");
        hexadecimal(3, 0, "0x0.0p0");
        hexadecimal(3, 1, "0x0.000002p-126");
        hexadecimal(3, 0x007fffffL, "0x0.fffffep-126");
        hexadecimal(3, 0x00800000L, "0x1.0p-126");
        hexadecimal(3, 0x00800001L, "0x1.000002p-126");
        hexadecimal(3, 0x7f7fffffL, "0x1.fffffep127");
    }

    private static void hexadecimalFraction() {
        House.sentence("F as hexadecimal figures 0 .. 9 a .. f (wide: 13 of them, narrow: six, of which the last bit is 0 more), without 0 at the end, but one at least");
        hexadecimal(2, 0x3ff0000000000000L, "0x1.0p0");
        hexadecimal(2, 0x3ff8000000000000L, "0x1.8p0");
        hexadecimal(2, 0x3ff0800000000000L, "0x1.08p0");
        hexadecimal(2, 0x3ff0000000000010L, "0x1.000000000001p0");
        hexadecimal(2, 0x3ff0000000000001L, "0x1.0000000000001p0");
        hexadecimal(2, 0x3ff123456789abcdL, "0x1.123456789abcdp0");
        hexadecimal(2, 0x3ffabcdef0000000L, "0x1.abcdefp0");
        hexadecimal(2, 0x0008000000000000L, "0x0.8p-1022");
        hexadecimal(3, 0x3f800000L, "0x1.0p0");
        hexadecimal(3, 0x3fc00000L, "0x1.8p0");
        hexadecimal(3, 0x3f800001L, "0x1.000002p0");
        hexadecimal(3, 0x3f800008L, "0x1.00001p0");
        hexadecimal(3, 0x3fffffffL, "0x1.fffffep0");
        hexadecimal(3, 0x00400000L, "0x0.8p-126");
    }

    private static void hexadecimalPower() {
        House.sentence("then p and the power of 2 (that for which F's point stands so; -1022 or -126 if E is 0)");
        hexadecimal(2, 0x4000000000000000L, "0x1.0p1");
        hexadecimal(2, 0x3fe0000000000000L, "0x1.0p-1");
        hexadecimal(2, 0x4080000000000000L, "0x1.0p9");
        hexadecimal(2, 0x4090000000000000L, "0x1.0p10");
        hexadecimal(2, 0x4620000000000000L, "0x1.0p99");
        hexadecimal(2, 0x4630000000000000L, "0x1.0p100");
        hexadecimal(2, 0x0020000000000000L, "0x1.0p-1021");
        hexadecimal(2, 0x0010000000000000L, "0x1.0p-1022");
        hexadecimal(2, 0x0000000000000100L, "0x0.00000000001p-1022");
        hexadecimal(3, 0x01000000L, "0x1.0p-125");
        hexadecimal(3, 0x00000008L, "0x0.00001p-126");
        hexadecimal(3, 0x7f000000L, "0x1.0p127");
    }

    private static void figures(double x, boolean scientific, int n, int way, String want) {
        House h = new House();
        h.x.put(2, 1, Double.doubleToRawLongBits(x));
        House.due("figures of " + x + " " + n + " by " + way, h.paper(h.x.figures(2, 1, scientific, n, way)), want);
        h.x.put(2, 1, Double.doubleToRawLongBits(-x));
        House.due("figures of " + -x + " " + n + " by " + way, h.paper(h.x.figures(2, 1, scientific, n, way)), "-" + want);
        if ((float) x == x) {
            h.x.put(3, 1, Float.floatToRawIntBits((float) x));
            House.due("figures of narrow " + x + " " + n + " by " + way, h.paper(h.x.figures(3, 1, scientific, n, way)), want);
        }
    }

    private static void ways() {
        House.sentence("FIGURES are ROUNDED to a multiple of a power of 10 by a WAY: 0 towards 0, 1 away from 0, 2 to the nearest one, of two such to the one away from 0, 3 to the nearest one, of two such to the one whose last figure is even.");
        double[] values = {2, 2.25, 2.5, 2.75, 3, 3.5, 0.25, 0.5, 0.75, 9.5, 2.5000000000000004, 2.4999999999999996, 1.5, 0.5000000000000001, 0.49999999999999994};
        String[] want = {"2 2 2 2 3 3 0 0 0 9 2 2 1 0 0", "2 3 3 3 3 4 1 1 1 10 3 3 2 1 1", "2 2 3 3 3 4 0 1 1 10 3 2 2 1 0", "2 2 2 3 3 4 0 0 1 10 3 2 2 1 0"};
        for (int way = 0; way < 4; way++) {
            String[] due = want[way].split(" ");
            for (int i = 0; i < values.length; i++) {
                figures(values[i], false, 0, way, due[i]);
                if (values[i] + 1024 - 1024 == values[i]) {
                    figures(values[i] + 1024, false, 0, way, String.valueOf(1024 + Integer.parseInt(due[i])));
                }
            }
        }
        Twins.range("the way of a fixed text", 3, 0, 3, (x, n) -> x.figures(n[0], n[1], false, n[2], n[3]), 2, 3, 5, 0);
        Twins.range("the way of a scientific text", 3, 0, 3, (x, n) -> x.figures(n[0], n[1], true, n[2], n[3]), 3, 3, 5, 0);
    }

    private static void fixed() {
        House.sentence("FIXED TEXT of a finite one: - for the sign 1, then the size rounded to places behind the point, written out with as many (no point for 0 places), and at least one figure before it.");
        figures(0, false, 0, 0, "0");
        figures(0, false, 1, 0, "0.0");
        figures(0, false, 3, 1, "0.000");
        figures(0.25, false, 0, 0, "0");
        figures(0.25, false, 1, 0, "0.2");
        figures(0.25, false, 2, 0, "0.25");
        figures(0.25, false, 3, 0, "0.250");
        figures(9.75, false, 1, 1, "9.8");
        figures(9.96875, false, 1, 2, "10.0");
        figures(99.5, false, 0, 2, "100");
        figures(0.0625, false, 3, 2, "0.063");
        figures(0.0625, false, 3, 3, "0.062");
        figures(0.0625, false, 1, 1, "0.1");
        figures(0.0625, false, 1, 2, "0.1");
        figures(0.03125, false, 1, 2, "0.0");
        figures(1024, false, 0, 0, "1024");
        figures(Double.MIN_VALUE, false, 0, 1, "1");
        figures(Double.MIN_VALUE, false, 0, 2, "0");
        figures(Double.MIN_VALUE, false, 324, 0, "0." + zeros(323) + "4");
        figures(Double.MIN_VALUE, false, 324, 2, "0." + zeros(323) + "5");
        figures(Double.MIN_VALUE, false, 323, 2, "0." + zeros(323));
        figures(Double.MIN_VALUE, false, 1074, 0, new BigDecimal(Double.MIN_VALUE).toPlainString());
        figures(Double.MAX_VALUE, false, 0, 1, new BigDecimal(Double.MAX_VALUE).toPlainString());
    }

    private static String zeros(int n) {
        return new String(new char[n]).replace('\0', '0');
    }

    private static void scientific() {
        House.sentence("SCIENTIFIC TEXT: - for the sign 1, then the size rounded to so many figures (0 has figures 0): the first one, a point and the others (no point without others), e, + or -, and the power of 10 that the first figure stands for, with two figures at least.");
        figures(0, true, 1, 0, "0e+00");
        figures(0, true, 3, 1, "0.00e+00");
        figures(1, true, 1, 0, "1e+00");
        figures(1, true, 2, 0, "1.0e+00");
        figures(9.5, true, 1, 0, "9e+00");
        figures(9.5, true, 1, 1, "1e+01");
        figures(9.5, true, 1, 2, "1e+01");
        figures(8.5, true, 1, 3, "8e+00");
        figures(9.96875, true, 2, 2, "1.0e+01");
        figures(0.0625, true, 1, 0, "6e-02");
        figures(0.09375, true, 1, 1, "1e-01");
        figures(0.96875, true, 1, 2, "1e+00");
        figures(1e9, true, 1, 0, "1e+09");
        figures(1e10, true, 1, 0, "1e+10");
        figures(9.5e99, true, 1, 0, "9e+99");
        figures(9.75e99, true, 1, 1, "1e+100");
        figures(1e-9, true, 1, 0, "1e-09");
        figures(1e-100, true, 1, 0, one(1e-100));
        figures(1e-99, true, 1, 0, one(1e-99));
        figures(Double.MIN_VALUE, true, 1, 2, "5e-324");
        figures(Double.MIN_VALUE, true, 2, 0, "4.9e-324");
        BigInteger five = BigInteger.valueOf(5).pow(1074);
        String all = five.toString();
        figures(Double.MIN_VALUE, true, all.length(), 0, all.charAt(0) + "." + all.substring(1) + "e-324");
        figures(Double.MIN_VALUE, true, 800, 1, all.charAt(0) + "." + all.substring(1) + zeros(800 - all.length()) + "e-324");
    }

    private static String one(double x) {
        BigDecimal exact = new BigDecimal(x);
        return exact.unscaledValue().toString().charAt(0) + "e-" + (exact.scale() - exact.precision() + 1);
    }
}
