import java.math.BigDecimal;
import java.math.BigInteger;
import java.math.MathContext;
import java.math.RoundingMode;
import java.util.Random;

/** Floats against double, float and BigDecimal, with a fixed seed. */
public final class OracleFloatsTest {
    private static final Random RANDOM = new Random(64032);
    private static final RoundingMode[] WAYS = {
        RoundingMode.DOWN, RoundingMode.UP, RoundingMode.HALF_UP, RoundingMode.HALF_EVEN
    };

    public static void main(String[] args) {
        for (int round = 0; round < 1200; round++) {
            House h = new House();
            wide(h, someWide());
            narrow(h, someNarrow());
            texts(h);
            conversions(h);
        }
        House.end();
    }

    private static double someWide() {
        switch (RANDOM.nextInt(7)) {
            case 0:
                return Double.longBitsToDouble((long) (RANDOM.nextInt(2046) + 1) << 52);
            case 1:
                return Double.longBitsToDouble(RANDOM.nextLong() >>> 12 >>> RANDOM.nextInt(52));
            case 2:
                return RANDOM.nextInt(100000) / 1000.0 * Math.pow(10, RANDOM.nextInt(12) - 6);
            case 3:
                return Math.pow(10, RANDOM.nextInt(600) - 300) * (1 + RANDOM.nextInt(9));
            case 4:
                return Double.longBitsToDouble(((long) (RANDOM.nextInt(2046) + 1) << 52) + RANDOM.nextInt(9) - 4);
            default:
                double any = Double.longBitsToDouble(RANDOM.nextLong());
                return Double.isNaN(any) || Double.isInfinite(any) ? 0.0 : any;
        }
    }

    private static float someNarrow() {
        switch (RANDOM.nextInt(5)) {
            case 0:
                return Float.intBitsToFloat((RANDOM.nextInt(254) + 1) << 23);
            case 1:
                return Float.intBitsToFloat(RANDOM.nextInt() >>> 9 >>> RANDOM.nextInt(23));
            case 2:
                return (float) (RANDOM.nextInt(10000) / 100.0 * Math.pow(10, RANDOM.nextInt(12) - 6));
            default:
                float any = Float.intBitsToFloat(RANDOM.nextInt());
                return Float.isNaN(any) || Float.isInfinite(any) ? -0.0f : any;
        }
    }

    private static void wide(House h, double x) {
        long bits = Double.doubleToRawLongBits(x);
        h.x.put(2, 0, bits);
        House.due("hexadecimal of " + x, h.printed(2, 0, 1), Double.toHexString(x));
        exactly(h, 2, new BigDecimal(x), bits < 0);
        shortest(h, 2, new BigDecimal(Math.abs(x)), bits < 0);
        House.due("read back " + x, h.reads(2, 1, 10, h.printed(2, 0, 0)), true);
        House.due("read back as " + x, h.x.told(2, 1, 0), bits);
        double y = RANDOM.nextInt(4) == 0 ? -x : someWide();
        h.x.put(2, 1, Double.doubleToRawLongBits(y));
        House.due("compare " + x + " " + y, h.x.compare(2, 0, 1), x < y ? -1 : x > y ? 1 : 0);
    }

    private static void narrow(House h, float x) {
        long bits = Float.floatToRawIntBits(x) & 0xffffffffL;
        boolean negative = (bits & 0x80000000L) != 0;
        h.x.put(3, 0, bits);
        House.due("hexadecimal of " + x, h.printed(3, 0, 1), Float.toHexString(x));
        exactly(h, 3, new BigDecimal(x), negative);
        shortest(h, 3, new BigDecimal(Math.abs(x)), negative);
        House.due("read back " + x, h.reads(3, 1, 10, h.printed(3, 0, 0)), true);
        House.due("read back as " + x, h.x.told(3, 1, 0), bits);
        float y = RANDOM.nextInt(4) == 0 ? -x : someNarrow();
        h.x.put(3, 1, Float.floatToRawIntBits(y) & 0xffffffffL);
        House.due("compare " + x + " " + y, h.x.compare(3, 0, 1), x < y ? -1 : x > y ? 1 : 0);
    }

    private static void exactly(House h, int kind, BigDecimal exact, boolean negative) {
        h.x.convert(kind, 0, 1, 0);
        BigDecimal least = exact.signum() == 0 ? BigDecimal.ZERO : exact.stripTrailingZeros();
        least = least.scale() < 0 ? least.setScale(0) : least;
        House.due("exact value", h.getDecimal(0), least);
        House.due("its scale", h.x.told(1, 0, 1), least.scale());
        h.x.convert(kind, 0, 0, 0);
        House.due("towards zero", h.getWhole(0), exact.toBigInteger());
        int way = RANDOM.nextInt(4);
        int places = RANDOM.nextInt(3) == 0 ? RANDOM.nextInt(1101) : RANDOM.nextInt(25);
        String sign = negative ? "-" : "";
        String fixed = sign + exact.abs().setScale(places, WAYS[way]).toPlainString();
        House.due("fixed " + exact + " " + places + " by " + way,
                h.paper(h.x.figures(kind, 0, false, places, way)), fixed);
        int n = RANDOM.nextInt(3) == 0 ? 1 + RANDOM.nextInt(800) : 1 + RANDOM.nextInt(25);
        House.due("scientific " + exact + " " + n + " by " + way,
                h.paper(h.x.figures(kind, 0, true, n, way)), sign + scientific(exact.abs(), n, way));
    }

    private static String scientific(BigDecimal size, int n, int way) {
        BigDecimal rounded = size.round(new MathContext(n, WAYS[way]));
        int power = size.signum() == 0 ? 0 : rounded.precision() - 1 - rounded.scale();
        StringBuilder figures = new StringBuilder(rounded.unscaledValue().toString());
        while (figures.length() < n) {
            figures.append('0');
        }
        String head = figures.charAt(0) + (n > 1 ? "." + figures.substring(1, n) : "");
        return head + "e" + (power < 0 ? "-" : "+") + (Math.abs(power) < 10 ? "0" : "") + Math.abs(power);
    }

    private static boolean roundsTo(BigDecimal candidate, BigDecimal x, int kind) {
        if (kind == 2) {
            return candidate.doubleValue() == x.doubleValue();
        }
        return Float.parseFloat(candidate.toString()) == Float.parseFloat(x.toString());
    }

    /** Tries each length from 2 on, the next decimal below and above. */
    private static BigDecimal shortestOf(BigDecimal x, int kind) {
        for (int n = 2; n < 20; n++) {
            BigDecimal low = x.round(new MathContext(n, RoundingMode.DOWN));
            low = low.setScale(n - 1 - (x.precision() - 1 - x.scale()), RoundingMode.DOWN);
            BigDecimal high = new BigDecimal(low.unscaledValue().add(BigInteger.ONE), low.scale());
            boolean lowRounds = roundsTo(low, x, kind);
            boolean highRounds = roundsTo(high, x, kind);
            if (lowRounds && highRounds) {
                int nearer = x.subtract(low).compareTo(high.subtract(x));
                boolean even = !low.unscaledValue().testBit(0);
                return (nearer < 0 || nearer == 0 && even ? low : high).stripTrailingZeros();
            }
            if (lowRounds || highRounds) {
                return (lowRounds ? low : high).stripTrailingZeros();
            }
        }
        throw new RuntimeException("no shortest decimal");
    }

    private static String shortText(BigDecimal c, BigDecimal x) {
        if (x.compareTo(BigDecimal.valueOf(1, 3)) >= 0 && x.compareTo(BigDecimal.valueOf(1, -7)) < 0) {
            String plain = c.toPlainString();
            return plain.indexOf('.') < 0 ? plain + ".0" : plain;
        }
        String figures = c.unscaledValue().toString();
        String others = figures.length() == 1 ? "0" : figures.substring(1);
        return figures.charAt(0) + "." + others + "E" + (c.precision() - 1 - c.scale());
    }

    private static void shortest(House h, int kind, BigDecimal x, boolean negative) {
        String sign = negative ? "-" : "";
        if (x.signum() == 0) {
            House.due("short text of 0", h.printed(kind, 0, 0), sign + "0.0");
            House.due("c of 0", h.x.told(kind, 0, 1), 0);
            House.due("i of 0", h.x.told(kind, 0, 2), 0);
            return;
        }
        BigDecimal c = shortestOf(x, kind);
        House.due("c of " + x, h.x.told(kind, 0, 1), c.unscaledValue());
        House.due("i of " + x, h.x.told(kind, 0, 2), -c.scale());
        House.due("short text of " + x, h.printed(kind, 0, 0), sign + shortText(c, x));
    }

    private static String someText() {
        if (RANDOM.nextInt(3) == 0) {
            return halfWay();
        }
        StringBuilder text = new StringBuilder(RANDOM.nextBoolean() ? "-" : "");
        boolean hexadecimal = RANDOM.nextInt(3) == 0;
        String figures = hexadecimal ? "0123456789abcdefABCDEF" : "0123456789";
        text.append(hexadecimal ? "0x" : "");
        int before = RANDOM.nextInt(RANDOM.nextInt(4) == 0 ? 900 : 20);
        int behind = RANDOM.nextInt(RANDOM.nextInt(4) == 0 ? 900 : 20) + (before == 0 ? 1 : 0);
        for (int i = 0; i < before; i++) {
            text.append(figures.charAt(RANDOM.nextInt(figures.length())));
        }
        text.append('.');
        for (int i = 0; i < behind; i++) {
            text.append(figures.charAt(RANDOM.nextInt(RANDOM.nextInt(3) == 0 ? 1 : figures.length())));
        }
        int power = RANDOM.nextInt(hexadecimal ? 2400 : 700) - (hexadecimal ? 1200 : 350);
        return text.append(hexadecimal ? "p" : "e").append(power - (hexadecimal ? 4 : 1) * before / 2).toString();
    }

    /** Just between two floats, or a little beside that, far behind the point. */
    private static String halfWay() {
        BigDecimal low;
        BigDecimal high;
        if (RANDOM.nextBoolean()) {
            double x = Math.abs(someWide());
            low = new BigDecimal(x);
            high = Math.nextUp(x) == Double.POSITIVE_INFINITY ? low : new BigDecimal(Math.nextUp(x));
        } else {
            float x = Math.abs(someNarrow());
            low = new BigDecimal(x);
            high = Math.nextUp(x) == Float.POSITIVE_INFINITY ? low : new BigDecimal(Math.nextUp(x));
        }
        BigDecimal half = low.add(high).divide(BigDecimal.valueOf(2));
        int beside = RANDOM.nextInt(3) - 1;
        if (beside != 0) {
            half = half.add(BigDecimal.valueOf(beside, half.scale() + 1 + RANDOM.nextInt(300)));
        }
        return RANDOM.nextBoolean() ? half.toString() : half.toPlainString();
    }

    private static void texts(House h) {
        String text = someText();
        House.due("read " + text, h.reads(2, 2, 10, text), true);
        House.due("wide of " + text, h.x.told(2, 2, 0), Double.doubleToRawLongBits(Double.parseDouble(text)));
        House.due("read " + text, h.reads(3, 2, 10, text), true);
        House.due("narrow of " + text, h.x.told(3, 2, 0), Float.floatToRawIntBits(Float.parseFloat(text)) & 0xffffffffL);
    }

    private static void conversions(House h) {
        String text = halfWay();
        BigDecimal value = new BigDecimal(text);
        if (value.precision() <= 1000) {
            h.setDecimal(3, RANDOM.nextBoolean() ? value : value.negate());
            value = h.getDecimal(3);
            h.x.convert(1, 3, 2, 3);
            House.due("wide from " + value, h.x.told(2, 3, 0), wideBits(value));
            h.x.convert(1, 3, 3, 3);
            House.due("narrow from " + value, h.x.told(3, 3, 0), narrowBits(value));
        }
        BigInteger whole = new BigInteger(1 + RANDOM.nextInt(1100), RANDOM).subtract(House.two(RANDOM.nextInt(200)));
        h.setWhole(4, whole);
        h.x.convert(0, 4, 2, 4);
        House.due("wide from " + whole, h.x.told(2, 4, 0), Double.doubleToRawLongBits(whole.doubleValue()));
        h.x.convert(0, 4, 3, 4);
        House.due("narrow from " + whole, h.x.told(3, 4, 0), Float.floatToRawIntBits(whole.floatValue()) & 0xffffffffL);
        double x = someWide();
        h.x.put(2, 5, Double.doubleToRawLongBits(x));
        h.x.convert(2, 5, 3, 5);
        House.due("narrow from " + x, h.x.told(3, 5, 0), Float.floatToRawIntBits((float) x) & 0xffffffffL);
        float y = someNarrow();
        h.x.put(3, 5, Float.floatToRawIntBits(y) & 0xffffffffL);
        h.x.convert(3, 5, 2, 5);
        House.due("wide from " + y, h.x.told(2, 5, 0), Double.doubleToRawLongBits((double) y));
    }

    /** A decimal's 0 has no sign, but one that rounds to 0 has. */
    private static long wideBits(BigDecimal value) {
        return Double.doubleToRawLongBits(Double.parseDouble(value.toString()));
    }

    private static long narrowBits(BigDecimal value) {
        return Float.floatToRawIntBits(Float.parseFloat(value.toString())) & 0xffffffffL;
    }
}
