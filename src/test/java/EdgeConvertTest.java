import java.math.BigDecimal;
import java.math.BigInteger;

/** The sentences of the promise 16 that name an edge: convert. */
public final class EdgeConvertTest {
    private static final BigInteger MOST = House.two(2048).subtract(BigInteger.ONE);

    public static void main(String[] args) {
        ofTheSame();
        wholesFromDecimals();
        wholesFromFloats();
        wholesTooGreat();
        decimalsFromWholes();
        decimalsFromFloats();
        decimalsFromDecimals();
        floatsKeepTheirSign();
        infinite();
        noNumbers();
        sameFormat();
        notFinite();
        House.end();
    }

    private static void ofTheSame() {
        House.sentence("A register of a kind gets the value of one of a kind, or of the same");
        for (BigInteger value : new BigInteger[] {BigInteger.ZERO, BigInteger.ONE, BigInteger.ONE.negate(), MOST, MOST.negate()}) {
            House h = new House();
            Twins.furnish(h);
            h.setWhole(1, value);
            h.x.convert(0, 1, 0, 2);
            House.due("a whole from a whole", h.getWhole(2), value);
            House.due("which stays", h.getWhole(1), value);
            h.x.convert(0, 1, 0, 1);
            House.due("a whole from itself", h.getWhole(1), value);
        }
    }

    private static void wholesFromDecimals() {
        House.sentence("a whole from others rounded towards 0");
        String[][] rows = {{"0", "0"}, {"0E+10000", "0"}, {"0E-10000", "0"}, {"0.9", "0"}, {"-0.9", "0"}, {"1.0", "1"}, {"-1.0", "-1"}, {"1.9", "1"}, {"-1.9", "-1"},
            {"9.99999", "9"}, {"1E-10000", "0"}, {"-1E-10000", "0"}, {"12E+3", "12000"}, {"1E+616", House.ten(616).toString()}, {"-123.456E+2", "-12345"},
            {MOST + ".9", MOST.toString()}, {"-" + MOST + ".9", "-" + MOST}};
        for (String[] row : rows) {
            House h = new House();
            Twins.furnish(h);
            h.setDecimal(1, new BigDecimal(row[0]));
            h.x.convert(1, 1, 0, 2);
            House.due("a whole from " + row[0], h.getWhole(2), row[1]);
        }
    }

    private static void wholesFromFloats() {
        House.sentence("a whole from others rounded towards 0");
        double[] values = {0.0, -0.0, 0.5, -0.5, 0.9999999999999999, -0.9999999999999999, 1, -1, 1.9999999999999998, -1.9999999999999998, 4503599627370495.5,
            -4503599627370495.5, 9007199254740992.0, 9007199254740994.0, 1e22, -1e22, Double.MIN_VALUE, -Double.MIN_VALUE, Double.MAX_VALUE, -Double.MAX_VALUE};
        for (double value : values) {
            House h = new House();
            Twins.furnish(h);
            h.x.put(2, 1, Double.doubleToRawLongBits(value));
            h.x.convert(2, 1, 0, 2);
            House.due("a whole from wide " + value, h.getWhole(2), new BigDecimal(value).toBigInteger());
            House.due("its sign", h.x.told(0, 2, 1), new BigDecimal(value).toBigInteger().signum());
        }
        float[] narrow = {0.0f, -0.0f, 0.99999994f, -0.99999994f, 1, -1, 1.9999999f, -8388607.5f, 16777216f, Float.MIN_VALUE, Float.MAX_VALUE, -Float.MAX_VALUE};
        for (float value : narrow) {
            House h = new House();
            Twins.furnish(h);
            h.x.put(3, 1, Float.floatToRawIntBits(value) & 0xffffffffL);
            h.x.convert(3, 1, 0, 2);
            House.due("a whole from narrow " + value, h.getWhole(2), new BigDecimal(value).toBigInteger());
        }
    }

    private static void wholesTooGreat() {
        House.sentence("A call that would put into a register what it cannot have throws ArithmeticException.");
        for (String text : new String[] {House.two(2048).toString(), House.two(2048).negate().toString(), House.two(2048) + ".0", "1E+617", "-1E+617", "1E+1000", "9E+10000"}) {
            Twins.Setup setup = Twins.furnished(h -> h.setDecimal(1, new BigDecimal(text)));
            Twins.refuses("a whole from " + text, House.ARITHMETIC, setup, x -> x.convert(1, 1, 0, 2));
            Twins.takes("a wide one", setup, x -> x.convert(1, 1, 2, 2));
            Twins.takes("a narrow one", setup, x -> x.convert(1, 1, 3, 2));
            Twins.takes("a decimal", setup, x -> x.convert(1, 1, 1, 2));
        }
    }

    private static void decimal(int kind, Twins.Setup from, String want) {
        House h = new House();
        Twins.furnish(h);
        h.setDecimal(2, new BigDecimal("7E-77"));
        from.make(h);
        h.x.convert(kind, 1, 1, 2);
        House.due("the decimal of kind " + kind, h.getDecimal(2).unscaledValue() + " " + h.x.told(1, 2, 1), want);
    }

    private static void decimalsFromWholes() {
        House.sentence("a decimal with the least scale not below 0");
        for (BigInteger value : new BigInteger[] {BigInteger.ZERO, BigInteger.ONE, BigInteger.TEN, House.ten(100).negate(), MOST, MOST.negate()}) {
            decimal(0, h -> h.setWhole(1, value), value + " 0");
        }
    }

    private static void decimalsFromFloats() {
        House.sentence("a decimal with the least scale not below 0");
        double[] values = {1, 10, -1000, 0.5, -0.75, 0.1, 1e22, 1.5, 1234.5, 0x1p-1022, 0x1p-1074, -0x3p-1073, 0x1.8p-1, Double.MAX_VALUE, 9007199254740992.0};
        for (double value : values) {
            BigDecimal exact = new BigDecimal(value).stripTrailingZeros();
            BigDecimal want = exact.scale() < 0 ? exact.setScale(0) : exact;
            decimal(2, h -> h.x.put(2, 1, Double.doubleToRawLongBits(value)), want.unscaledValue() + " " + want.scale());
        }
        float[] narrow = {1, 10, -0.5f, 0.1f, Float.MIN_VALUE, Float.MAX_VALUE};
        for (float value : narrow) {
            BigDecimal exact = new BigDecimal(value).stripTrailingZeros();
            BigDecimal want = exact.scale() < 0 ? exact.setScale(0) : exact;
            decimal(3, h -> h.x.put(3, 1, Float.floatToRawIntBits(value) & 0xffffffffL), want.unscaledValue() + " " + want.scale());
        }
        for (int kind = 2; kind < 4; kind++) {
            int which = kind;
            decimal(kind, h -> h.x.put(which, 1, 0), "0 0");
            decimal(kind, h -> h.x.put(which, 1, which == 2 ? Long.MIN_VALUE : 0x80000000L), "0 0");
        }
    }

    private static void decimalsFromDecimals() {
        House.sentence("(but from a decimal just that one)");
        for (String text : new String[] {"0", "0E+10000", "0E-10000", "1.500", "-15E+3", "1E-10000", "1E+10000", "1000"}) {
            BigDecimal value = new BigDecimal(text);
            decimal(1, h -> h.setDecimal(1, value), value.unscaledValue() + " " + value.scale());
        }
        BigInteger nines = House.ten(1000).subtract(BigInteger.ONE);
        decimal(1, h -> h.setDecimal(1, new BigDecimal(nines, -10000)), nines + " -10000");
        House h = new House();
        h.setDecimal(1, new BigDecimal("-1.500"));
        h.x.convert(1, 1, 1, 1);
        House.due("to itself", h.printed(1, 1, 0), "-1.500");
    }

    private static void between(int kind, long bits, long want) {
        House h = new House();
        Twins.furnish(h);
        h.x.put(kind, 1, bits);
        h.x.convert(kind, 1, 5 - kind, 2);
        House.due("from " + Long.toHexString(bits), Long.toHexString(h.x.told(5 - kind, 2, 0)), Long.toHexString(want));
        House.due("the other stays", h.x.told(kind, 1, 0), bits);
    }

    private static void floatsKeepTheirSign() {
        House.sentence("a float to which the value rounds (0 with the sign 0, but from a float its sign)");
        between(2, 0, 0);
        between(2, Long.MIN_VALUE, 0x80000000L);
        between(3, 0, 0);
        between(3, 0x80000000L, Long.MIN_VALUE);
        between(2, 1, 0);
        between(2, Long.MIN_VALUE | 1, 0x80000000L);
        between(2, Double.doubleToRawLongBits(0x1p-150), 0);
        between(2, Double.doubleToRawLongBits(-0x1p-150), 0x80000000L);
        between(2, Double.doubleToRawLongBits(0x1p-150) + 1, 1);
        between(2, Double.doubleToRawLongBits(-0x1p-150) + 1, 0x80000001L);
        between(3, 1, Double.doubleToRawLongBits(0x1p-149));
        between(3, 0x80000001L, Double.doubleToRawLongBits(-0x1p-149));
        between(3, 0x7f7fffffL, Double.doubleToRawLongBits(Float.MAX_VALUE));
        between(3, 0x007fffffL, Double.doubleToRawLongBits(Float.intBitsToFloat(0x007fffff)));
    }

    private static void infinite() {
        House.sentence("Infinite floats stay so in the other format");
        between(2, 0x7ff0000000000000L, 0x7f800000L);
        between(2, 0xfff0000000000000L, 0xff800000L);
        between(3, 0x7f800000L, 0x7ff0000000000000L);
        between(3, 0xff800000L, 0xfff0000000000000L);
        between(2, 0x7fefffffffffffffL, 0x7f800000L);
        between(3, 0x7f7fffffL, 0x47efffffe0000000L);
    }

    private static void noNumbers() {
        House.sentence("no number becomes that with the highest bit of the fraction alone, sign 0");
        for (long bits : new long[] {0x7ff0000000000001L, 0x7ff8000000000000L, 0x7fffffffffffffffL, 0xfff0000000000001L, 0xfff8000000000000L, -1}) {
            between(2, bits, 0x7fc00000L);
        }
        for (long bits : new long[] {0x7f800001L, 0x7fc00000L, 0x7fffffffL, 0xff800001L, 0xffc00000L, 0xffffffffL}) {
            between(3, bits, 0x7ff8000000000000L);
        }
    }

    private static void sameFormat() {
        House.sentence("(in the same format it stays as it is)");
        for (long bits : new long[] {0x7ff0000000000001L, 0x7ff8000000000000L, 0xfff0000000000001L, -1, 0x7ff0000000000000L, 0xfff0000000000000L, 0, Long.MIN_VALUE, 1, 0x3ff0000000000001L}) {
            House h = new House();
            h.x.put(2, 1, bits);
            h.x.convert(2, 1, 2, 2);
            House.due("wide", h.x.told(2, 2, 0), bits);
        }
        for (long bits : new long[] {0x7f800001L, 0x7fc00000L, 0xff800001L, 0xffffffffL, 0x7f800000L, 0xff800000L, 0, 0x80000000L, 1, 0x3f800001L}) {
            House h = new House();
            h.x.put(3, 1, bits);
            h.x.convert(3, 1, 3, 2);
            House.due("narrow", h.x.told(3, 2, 0), bits);
        }
    }

    private static void notFinite() {
        House.sentence("ArithmeticException, too: a float that is not finite, to kind 0 or 1.");
        long[][] rows = {{2, 0x7ff0000000000000L}, {2, 0xfff0000000000000L}, {2, 0x7ff0000000000001L}, {2, 0x7ff8000000000000L}, {2, -1},
            {3, 0x7f800000L}, {3, 0xff800000L}, {3, 0x7f800001L}, {3, 0x7fc00000L}, {3, 0xffffffffL}};
        for (long[] row : rows) {
            int kind = (int) row[0];
            Twins.Setup setup = Twins.furnished(h -> h.x.put(kind, 1, row[1]));
            Twins.refuses("to a whole", House.ARITHMETIC, setup, x -> x.convert(kind, 1, 0, 2));
            Twins.refuses("to a decimal", House.ARITHMETIC, setup, x -> x.convert(kind, 1, 1, 2));
            Twins.takes("to a wide one", setup, x -> x.convert(kind, 1, 2, 2));
            Twins.takes("to a narrow one", setup, x -> x.convert(kind, 1, 3, 2));
            Twins.refuses("to no register", House.ILLEGAL_ARGUMENT, setup, x -> x.convert(kind, 1, 0, 10));
            Twins.refuses("to no kind", House.ILLEGAL_ARGUMENT, setup, x -> x.convert(kind, 1, 4, 2));
        }
        for (long[] row : new long[][] {{2, 0x7fefffffffffffffL}, {2, 0xffefffffffffffffL}, {3, 0x7f7fffffL}, {3, 0xff7fffffL}}) {
            Twins.Setup setup = Twins.furnished(h -> h.x.put((int) row[0], 1, row[1]));
            Twins.takes("the greatest to a whole", setup, x -> x.convert((int) row[0], 1, 0, 2));
            Twins.takes("the greatest to a decimal", setup, x -> x.convert((int) row[0], 1, 1, 2));
        }
    }
}
