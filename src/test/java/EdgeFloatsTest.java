import java.math.BigDecimal;
import java.math.BigInteger;

/** The edges of floats that the document's Terms name: their bits, and what a value rounds to. */
public final class EdgeFloatsTest {
    private static final BigDecimal TWO = new BigDecimal(2);

    public static void main(String[] args) {
        narrowBits();
        notFinite();
        sizes();
        belowNought();
        minusZero();
        roundsToNearest();
        roundsToInfinity();
        roundsToNought();
        roundsBelowNought();
        noughtItself();
        House.end();
    }

    private static long sign(int kind) {
        return kind == 2 ? Long.MIN_VALUE : 0x80000000L;
    }

    private static BigDecimal exact(int kind, long bits) {
        return kind == 2 ? new BigDecimal(Double.longBitsToDouble(bits)) : new BigDecimal(Float.intBitsToFloat((int) bits));
    }

    private static void narrowBits() {
        House.sentence("NARROW: the 32 lowest bits of a long, the others 0");
        House h = new House();
        for (long bits : new long[] {0, 1, 0x7fffffffL, 0x80000000L, 0xffffffffL}) {
            h.x.put(3, 1, bits);
            House.due("narrow bits", h.x.told(3, 1, 0), bits);
        }
        h.reads(3, 1, 10, "-1");
        House.due("-1 read", h.x.told(3, 1, 0), 0xbf800000L);
        h.x.put(0, 1, -1);
        h.x.convert(0, 1, 3, 1);
        House.due("-1 from a whole", h.x.told(3, 1, 0), 0xbf800000L);
        for (long bits : new long[] {0x100000000L, 0x1ffffffffL, -1, Long.MIN_VALUE, Long.MAX_VALUE}) {
            Twins.refuses("bits above", House.ILLEGAL_ARGUMENT, Twins.FURNISHED, x -> x.put(3, 1, bits));
        }
    }

    /** Text, whether it can be compared, and whether it has figures. */
    private static void looks(int kind, long bits, String text) {
        House h = new House();
        h.x.put(kind, 1, bits);
        House.due("the text", h.printed(kind, 1, 0), text);
        boolean number = !text.equals("NaN");
        boolean finite = number && !text.endsWith("Infinity");
        House.due("compared", House.thrown(() -> h.x.compare(kind, 1, 0)), number ? 0 : House.ARITHMETIC);
        House.due("figures", House.thrown(() -> h.x.figures(kind, 1, true, 3, 0)), finite ? 0 : House.ARITHMETIC);
        House.due("c", House.thrown(() -> h.x.told(kind, 1, 1)), finite ? 0 : House.ARITHMETIC);
        House.due("i", House.thrown(() -> h.x.told(kind, 1, 2)), finite ? 0 : House.ARITHMETIC);
        House.due("a whole", House.thrown(() -> h.x.convert(kind, 1, 0, 1)), finite ? 0 : House.ARITHMETIC);
        House.due("a decimal", House.thrown(() -> h.x.convert(kind, 1, 1, 1)), finite ? 0 : House.ARITHMETIC);
    }

    private static void notFinite() {
        House.sentence("If all bits of the exponent are 1, it is INFINITE (F is 0) or NO NUMBER.");
        looks(2, 0x7fefffffffffffffL, "1.7976931348623157E308");
        looks(2, 0x7ff0000000000000L, "Infinity");
        looks(2, 0x7ff0000000000001L, "NaN");
        looks(2, 0x7ff8000000000000L, "NaN");
        looks(2, 0x7fffffffffffffffL, "NaN");
        looks(2, 0xffefffffffffffffL, "-1.7976931348623157E308");
        looks(2, 0xfff0000000000000L, "-Infinity");
        looks(2, 0xfff0000000000001L, "NaN");
        looks(2, -1, "NaN");
        looks(3, 0x7f7fffffL, "3.4028235E38");
        looks(3, 0x7f800000L, "Infinity");
        looks(3, 0x7f800001L, "NaN");
        looks(3, 0x7fffffffL, "NaN");
        looks(3, 0xff7fffffL, "-3.4028235E38");
        looks(3, 0xff800000L, "-Infinity");
        looks(3, 0xff800001L, "NaN");
        looks(3, 0xffffffffL, "NaN");
    }

    private static void sizes() {
        House.sentence("If E is 0, its size is F times 2 to the (1 - B), else it is (F and 2 to the P) times 2 to the (E - B)");
        long[] wide = {1, 2, 3, 0x000fffffffffffffL, 0x0010000000000000L, 0x0010000000000001L, 0x001fffffffffffffL, 0x0020000000000000L,
            0x3fefffffffffffffL, 0x3ff0000000000000L, 0x3ff0000000000001L, 0x4330000000000001L, 0x4340000000000001L, 0x7fe0000000000000L, 0x7fefffffffffffffL};
        long[] narrow = {1, 2, 3, 0x007fffffL, 0x00800000L, 0x00800001L, 0x00ffffffL, 0x01000000L, 0x3f7fffffL, 0x3f800000L, 0x3f800001L,
            0x4b000001L, 0x4b800001L, 0x7f000000L, 0x7f7fffffL};
        for (int kind = 2; kind < 4; kind++) {
            for (long size : kind == 2 ? wide : narrow) {
                for (long bits : new long[] {size, size | sign(kind)}) {
                    House h = new House();
                    h.x.put(kind, 1, bits);
                    h.x.convert(kind, 1, 1, 2);
                    House.due("the value of " + Long.toHexString(bits), h.getDecimal(2).compareTo(exact(kind, bits)), 0);
                }
            }
        }
        House h = new House();
        h.x.put(2, 1, 1);
        h.x.convert(2, 1, 1, 2);
        House.due("the least wide one", h.getDecimal(2).multiply(TWO.pow(1074)).compareTo(BigDecimal.ONE), 0);
        h.x.put(3, 1, 1);
        h.x.convert(3, 1, 1, 2);
        House.due("the least narrow one", h.getDecimal(2).multiply(TWO.pow(149)).compareTo(BigDecimal.ONE), 0);
    }

    private static void belowNought() {
        House.sentence("it is below 0 if the sign is 1");
        for (int kind = 2; kind < 4; kind++) {
            long one = kind == 2 ? 0x3ff0000000000000L : 0x3f800000L;
            for (long size : new long[] {1, one, one - 1, one + 1}) {
                House h = new House();
                h.x.put(kind, 1, size);
                h.x.put(kind, 2, size | sign(kind));
                House.due("above 0", h.x.compare(kind, 1, 0), 1);
                House.due("below 0", h.x.compare(kind, 2, 0), -1);
                h.x.convert(kind, 1, 1, 1);
                h.x.convert(kind, 2, 1, 2);
                House.due("the sign above", h.x.told(1, 1, 0), 1);
                House.due("the sign below", h.x.told(1, 2, 0), -1);
                h.x.decimal(0, 1, 2, 3);
                House.due("the same size", h.x.told(1, 3, 0), 0);
            }
        }
    }

    private static void minusZero() {
        House.sentence("(0 with the sign 1 is MINUS ZERO)");
        for (int kind = 2; kind < 4; kind++) {
            House h = new House();
            h.x.put(kind, 1, sign(kind));
            House.due("its text", h.printed(kind, 1, 0), "-0.0");
            House.due("it is 0", h.x.compare(kind, 0, 1), 0);
            h.x.put(kind, 1, sign(kind) | 1);
            House.due("one bit more is below 0", h.x.compare(kind, 1, 0), -1);
            h.x.put(kind, 1, 1);
            House.due("without the sign it is above", h.x.compare(kind, 1, 0), 1);
        }
    }

    /** By every way on which a value can come to a float. */
    private static void rounds(int kind, BigDecimal value, long want) {
        one(kind, value, want);
        if (value.signum() != 0) {
            one(kind, value.negate(), want | sign(kind));
        }
    }

    private static void one(int kind, BigDecimal value, long want) {
        House h = new House();
        House.due("a text is read", h.reads(kind, 1, 10, value.toString()), true);
        House.due("read: " + value, Long.toHexString(h.x.told(kind, 1, 0)), Long.toHexString(want));
        h.reads(kind, 1, 10, value.unscaledValue() + "e" + -value.scale());
        House.due("read without a point: " + value, Long.toHexString(h.x.told(kind, 1, 0)), Long.toHexString(want));
        if (value.precision() <= 1000) {
            h.setDecimal(2, value);
            h.x.convert(1, 2, kind, 3);
            House.due("from a decimal: " + value, Long.toHexString(h.x.told(kind, 3, 0)), Long.toHexString(want));
        }
        if (value.stripTrailingZeros().scale() <= 0 && value.toBigInteger().bitLength() <= 2048) {
            h.setWhole(2, value.toBigIntegerExact());
            h.x.convert(0, 2, kind, 3);
            House.due("from a whole: " + value, Long.toHexString(h.x.told(kind, 3, 0)), Long.toHexString(want));
        }
    }

    private static void hexadecimal(int kind, BigInteger number, int power, long want) {
        House h = new House();
        String text = "0x" + number.toString(16) + "p" + power;
        House.due("read " + text, h.reads(kind, 1, 10, text), true);
        House.due(text + " is", Long.toHexString(h.x.told(kind, 1, 0)), Long.toHexString(want));
        House.due("read -" + text, h.reads(kind, 1, 10, "-" + text), true);
        House.due("-" + text + " is", Long.toHexString(h.x.told(kind, 1, 0)), Long.toHexString(want | sign(kind)));
    }

    /** Around the middle of the float of these bits and the next one. */
    private static void around(int kind, long bits) {
        long even = (bits & 1) == 0 ? bits : bits + 1;
        BigDecimal low = exact(kind, bits);
        BigDecimal middle = low.add(exact(kind, bits + 1)).divide(TWO);
        BigDecimal little = BigDecimal.ONE.movePointLeft(Math.max(middle.stripTrailingZeros().scale(), -300) + 60);
        rounds(kind, low, bits);
        rounds(kind, middle, even);
        rounds(kind, middle.subtract(little), bits);
        rounds(kind, middle.add(little), bits + 1);
        int mantissa = kind == 2 ? 52 : 23;
        long exponent = bits >>> mantissa;
        long fraction = bits & (1L << mantissa) - 1;
        BigInteger number = BigInteger.valueOf(exponent == 0 ? fraction : fraction | 1L << mantissa);
        int power = (int) Math.max(exponent, 1) - (kind == 2 ? 1075 : 150);
        BigInteger twice = number.shiftLeft(1).add(BigInteger.ONE);
        hexadecimal(kind, number, power, bits);
        hexadecimal(kind, twice, power - 1, even);
        hexadecimal(kind, twice.shiftLeft(300).subtract(BigInteger.ONE), power - 301, bits);
        hexadecimal(kind, twice.shiftLeft(300).add(BigInteger.ONE), power - 301, bits + 1);
    }

    private static void roundsToNearest() {
        House.sentence("A value above 0 ROUNDS to the finite number of its format that is nearest, of two such that whose lowest bit is 0");
        long[] wide = {1, 2, 3, 0x000ffffffffffffeL, 0x000fffffffffffffL, 0x0010000000000000L, 0x0010000000000001L, 0x001fffffffffffffL,
            0x3feffffffffffffeL, 0x3fefffffffffffffL, 0x3ff0000000000000L, 0x3ff0000000000001L, 0x433fffffffffffffL, 0x4340000000000000L,
            0x4340000000000001L, 0x44b52d02c7e14af6L, 0x7fdfffffffffffffL, 0x7feffffffffffffdL, 0x7feffffffffffffeL};
        long[] narrow = {1, 2, 3, 0x007ffffeL, 0x007fffffL, 0x00800000L, 0x00800001L, 0x00ffffffL, 0x3f7ffffeL, 0x3f7fffffL, 0x3f800000L,
            0x3f800001L, 0x4b7fffffL, 0x4b800000L, 0x4b800001L, 0x7effffffL, 0x7f7ffffdL, 0x7f7ffffeL};
        for (long bits : wide) {
            around(2, bits);
        }
        for (long bits : narrow) {
            around(3, bits);
            fromWide(bits);
        }
    }

    /** The middle of two narrow floats is a wide one. */
    private static void fromWide(long bits) {
        double low = Float.intBitsToFloat((int) bits);
        double high = Float.intBitsToFloat((int) bits + 1);
        long middle = Double.doubleToRawLongBits(low + (high - low) / 2);
        long[] from = {Double.doubleToRawLongBits(low), middle - 1, middle, middle + 1};
        long[] want = {bits, bits, (bits & 1) == 0 ? bits : bits + 1, bits + 1};
        for (int i = 0; i < 4; i++) {
            House h = new House();
            h.x.put(2, 1, from[i]);
            h.x.convert(2, 1, 3, 1);
            House.due("narrow from wide", Long.toHexString(h.x.told(3, 1, 0)), Long.toHexString(want[i]));
            h.x.put(2, 1, from[i] | Long.MIN_VALUE);
            h.x.convert(2, 1, 3, 1);
            House.due("narrow from wide below 0", Long.toHexString(h.x.told(3, 1, 0)), Long.toHexString(want[i] | 0x80000000L));
        }
    }

    private static void roundsToInfinity() {
        House.sentence("if it is 2 to the 1024 less 2 to the 970 or more (wide), 2 to the 128 less 2 to the 103 or more (narrow), to infinity");
        BigDecimal[] edges = {new BigDecimal(House.two(1024).subtract(House.two(970))), new BigDecimal(House.two(128).subtract(House.two(103)))};
        for (int kind = 2; kind < 4; kind++) {
            BigDecimal edge = edges[kind - 2];
            long infinite = kind == 2 ? 0x7ff0000000000000L : 0x7f800000L;
            rounds(kind, edge, infinite);
            rounds(kind, edge.add(BigDecimal.ONE), infinite);
            rounds(kind, edge.subtract(BigDecimal.ONE), infinite - 1);
            rounds(kind, edge.subtract(new BigDecimal("1E-500")), infinite - 1);
            rounds(kind, new BigDecimal(House.two(kind == 2 ? 1024 : 128)), infinite);
            rounds(kind, new BigDecimal("1E+500"), infinite);
            rounds(kind, new BigDecimal("9E+10000"), infinite);
            int power = kind == 2 ? 970 : 103;
            BigInteger most = House.two(kind == 2 ? 54 : 25).subtract(BigInteger.ONE);
            hexadecimal(kind, most, power, infinite);
            hexadecimal(kind, most.shiftLeft(400).subtract(BigInteger.ONE), power - 400, infinite - 1);
            hexadecimal(kind, BigInteger.ONE, Integer.MAX_VALUE, infinite);
        }
        House h = new House();
        long[] from = {0x47efffffefffffffL, 0x47effffff0000000L, 0x7fefffffffffffffL};
        long[] want = {0x7f7fffffL, 0x7f800000L, 0x7f800000L};
        for (int i = 0; i < 3; i++) {
            h.x.put(2, 1, from[i]);
            h.x.convert(2, 1, 3, 1);
            House.due("narrow from wide", Long.toHexString(h.x.told(3, 1, 0)), Long.toHexString(want[i]));
        }
        for (String text : new String[] {"1e99999999999999999999", "1" + new String(new char[4000]).replace('\0', '0')}) {
            House.due("a far text", h.reads(2, 1, 10, text) && h.x.told(2, 1, 0) == 0x7ff0000000000000L, true);
        }
    }

    private static void roundsToNought() {
        House.sentence("A value above 0 ROUNDS to the finite number of its format that is nearest, of two such that whose lowest bit is 0");
        for (int kind = 2; kind < 4; kind++) {
            int power = kind == 2 ? -1075 : -150;
            BigDecimal half = BigDecimal.ONE.divide(TWO.pow(-power));
            BigDecimal little = half.movePointLeft(100);
            rounds(kind, half, 0);
            rounds(kind, half.subtract(little), 0);
            rounds(kind, half.add(little), 1);
            rounds(kind, half.multiply(new BigDecimal(3)), 2);
            rounds(kind, half.multiply(new BigDecimal(3)).subtract(little), 1);
            rounds(kind, new BigDecimal("1E-500"), 0);
            rounds(kind, new BigDecimal("1E-10000"), 0);
            hexadecimal(kind, BigInteger.ONE, power, 0);
            hexadecimal(kind, House.two(300).add(BigInteger.ONE), power - 300, 1);
            hexadecimal(kind, House.two(300).subtract(BigInteger.ONE), power - 300, 0);
            hexadecimal(kind, BigInteger.ONE, -Integer.MAX_VALUE, 0);
        }
        House h = new House();
        House.due("a far text", h.reads(2, 1, 10, "9e-99999999999999999999") && h.x.told(2, 1, 0) == 0, true);
    }

    private static void roundsBelowNought() {
        House.sentence("A value below 0 rounds to the same with the sign 1.");
        House h = new House();
        h.setDecimal(1, new BigDecimal("-1E-10000"));
        h.x.convert(1, 1, 2, 1);
        h.x.convert(1, 1, 3, 1);
        House.due("wide minus zero", h.x.told(2, 1, 0), Long.MIN_VALUE);
        House.due("narrow minus zero", h.x.told(3, 1, 0), 0x80000000L);
        h.x.put(2, 1, Long.MIN_VALUE | 1);
        h.x.convert(2, 1, 3, 1);
        House.due("narrow from the wide one next to 0", h.x.told(3, 1, 0), 0x80000000L);
        h.reads(2, 1, 10, "-1e-400");
        House.due("read", h.x.told(2, 1, 0), Long.MIN_VALUE);
        h.setWhole(1, House.two(2047).negate());
        h.x.convert(0, 1, 2, 1);
        House.due("minus infinity", h.x.told(2, 1, 0), 0xfff0000000000000L);
    }

    private static void noughtItself() {
        House.sentence("a float to which the value rounds (0 with the sign 0, but from a float its sign)");
        for (int kind = 2; kind < 4; kind++) {
            House h = new House();
            Twins.furnish(h);
            h.x.put(0, 1, 0);
            h.x.convert(0, 1, kind, 2);
            House.due("from a whole", h.x.told(kind, 2, 0), 0);
            h.reads(1, 1, 10, "-0.00");
            h.x.convert(1, 1, kind, 3);
            House.due("from a decimal", h.x.told(kind, 3, 0), 0);
            for (int from = 2; from < 4; from++) {
                h.x.put(from, 4, sign(from));
                h.x.convert(from, 4, kind, 5);
                House.due("from minus zero", h.x.told(kind, 5, 0), sign(kind));
                h.x.put(from, 4, 0);
                h.x.convert(from, 4, kind, 5);
                House.due("from 0", h.x.told(kind, 5, 0), 0);
            }
        }
    }
}
