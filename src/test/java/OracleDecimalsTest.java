import java.math.BigDecimal;
import java.math.BigInteger;
import java.math.RoundingMode;
import java.util.Random;

/** Decimals against the document's own words over BigInteger fractions, with a fixed seed. */
public final class OracleDecimalsTest {
    private static final Random RANDOM = new Random(151126);
    private static final RoundingMode[] MODES = {
        RoundingMode.UP, RoundingMode.DOWN, RoundingMode.CEILING, RoundingMode.FLOOR,
        RoundingMode.HALF_UP, RoundingMode.HALF_DOWN, RoundingMode.HALF_EVEN, RoundingMode.UNNECESSARY
    };

    public static void main(String[] args) {
        for (int round = 0; round < 600; round++) {
            House h = new House();
            BigDecimal a = some();
            BigDecimal b = RANDOM.nextInt(5) == 0 ? near(a) : some();
            h.setDecimal(0, a);
            h.setDecimal(1, b);
            texts(h, a);
            House.due("compare " + a + " " + b, h.x.compare(1, 0, 1), order(a, b));
            pairs(h, a, b);
            divisions(h, a, b);
            shapes(h, a);
            singles(h, a);
        }
        House.end();
    }

    private static BigInteger someNumber(int most) {
        int digits = 1 + RANDOM.nextInt(most);
        BigInteger value;
        switch (RANDOM.nextInt(6)) {
            case 0:
                value = House.ten(digits - 1);
                break;
            case 1:
                value = House.ten(digits).subtract(BigInteger.ONE);
                break;
            case 2:
                value = BigInteger.valueOf(RANDOM.nextInt(1000)).multiply(House.ten(Math.max(0, digits - 3)));
                break;
            case 3:
                value = BigInteger.valueOf(5).pow(digits);
                break;
            default:
                value = new BigInteger(digits * 3321 / 1000, RANDOM);
        }
        return RANDOM.nextBoolean() ? value.negate() : value;
    }

    private static BigDecimal some() {
        int most = RANDOM.nextInt(3) == 0 ? 1000 : RANDOM.nextBoolean() ? 5 : 40;
        int scale = RANDOM.nextInt(41) - 20;
        if (RANDOM.nextInt(3) == 0) {
            scale = RANDOM.nextInt(1500) - 750;
        } else if (RANDOM.nextInt(6) == 0) {
            scale = RANDOM.nextInt(20001) - 10000;
        }
        return new BigDecimal(someNumber(most), scale);
    }

    private static BigDecimal near(BigDecimal a) {
        BigDecimal b = a;
        int raise = RANDOM.nextInt(10);
        if (a.precision() + raise <= 1000 && a.scale() + raise <= 10000) {
            b = a.setScale(a.scale() + raise);
        }
        BigDecimal c = new BigDecimal(b.unscaledValue().add(BigInteger.valueOf(RANDOM.nextInt(3) - 1)), b.scale());
        return c.precision() <= 1000 ? c : b;
    }

    private static int order(BigDecimal a, BigDecimal b) {
        return a.compareTo(b);
    }

    private static boolean fits(BigDecimal value) {
        return value != null && value.precision() <= 1000 && Math.abs((long) value.scale()) <= 10000;
    }

    private static void check(House h, String what, BigDecimal want, House.Call call) {
        House.due(what + " throws", House.thrown(call), fits(want) ? 0 : House.ARITHMETIC);
        if (fits(want)) {
            BigDecimal got = h.getDecimal(2);
            House.due(what, show(got), show(want));
            House.due(what + " precision", h.x.told(1, 2, 2), want.precision());
        }
    }

    private static String show(BigDecimal value) {
        return value.unscaledValue() + " scale " + value.scale();
    }

    private static void texts(House h, BigDecimal a) {
        House.due("style 0", h.printed(1, 0, 0), a.toString());
        House.due("style 1", h.printed(1, 0, 1), a.toPlainString());
        House.due("style 2", h.printed(1, 0, 2), a.toEngineeringString());
        House.due("sign", h.x.told(1, 0, 0), a.signum());
        House.due("scale", h.x.told(1, 0, 1), a.scale());
        House.due("precision", h.x.told(1, 0, 2), a.precision());
        int i = RANDOM.nextInt(a.precision());
        House.due("digit " + i, h.x.told(1, 0, 3 + i), a.unscaledValue().abs().toString().charAt(i) - '0');
        House.due("read", h.reads(1, 2, 10, a.toString()), true);
        House.due("read as printed", show(h.getDecimal(2)), show(a));
    }

    private static void pairs(House h, BigDecimal a, BigDecimal b) {
        String of = " of " + show(a) + " and " + show(b);
        check(h, "sum" + of, a.add(b), () -> h.x.decimal(0, 0, 1, 2));
        check(h, "difference" + of, a.subtract(b), () -> h.x.decimal(1, 0, 1, 2));
        check(h, "product" + of, a.multiply(b), () -> h.x.decimal(2, 0, 1, 2));
        BigDecimal rest = null;
        if (b.signum() != 0) {
            int scale = Math.max(a.scale(), b.scale());
            BigInteger first = a.setScale(scale).unscaledValue();
            BigInteger second = b.setScale(scale).unscaledValue();
            rest = new BigDecimal(first.remainder(second), scale);
        }
        check(h, "rest" + of, rest, () -> h.x.decimal(3, 0, 1, 2));
    }

    /** num / den rounded to an integer, null when the mode forbids it. */
    private static BigInteger rounded(BigInteger num, BigInteger den, int mode) {
        try {
            return new BigDecimal(num).divide(new BigDecimal(den), 0, MODES[mode]).toBigInteger();
        } catch (ArithmeticException e) {
            return null;
        }
    }

    private static BigDecimal toScale(BigInteger num, BigInteger den, int scale, int mode) {
        BigInteger up = scale > 0 ? num.multiply(House.ten(scale)) : num;
        BigInteger down = scale < 0 ? den.multiply(House.ten(-scale)) : den;
        BigInteger number = rounded(up, down, mode);
        return number == null ? null : new BigDecimal(number, scale);
    }

    private static int withoutFactor(BigInteger[] value, int factor) {
        BigInteger f = BigInteger.valueOf(factor);
        int times = 0;
        while (value[0].signum() != 0 && value[0].mod(f).signum() == 0) {
            value[0] = value[0].divide(f);
            times++;
        }
        return times;
    }

    /** The decimal of just this value with the least scale, null when there is none. */
    private static BigDecimal exact(BigInteger num, BigInteger den) {
        BigInteger common = num.gcd(den);
        BigInteger[] left = {den.divide(common)};
        int twos = withoutFactor(left, 2);
        int fives = withoutFactor(left, 5);
        if (!left[0].equals(BigInteger.ONE)) {
            return null;
        }
        int scale = Math.max(twos, fives);
        BigInteger number = num.divide(common).multiply(House.ten(scale)).divide(den.divide(common));
        BigDecimal value = new BigDecimal(number, scale);
        return value.stripTrailingZeros();
    }

    private static BigDecimal toPrecision(BigInteger num, BigInteger den, int p, long wish, int mode) {
        if (num.signum() == 0) {
            return new BigDecimal(BigInteger.ZERO, (int) wish);
        }
        BigDecimal exact = exact(num, den);
        if (exact != null && exact.precision() <= p) {
            long most = exact.scale() + p - exact.precision();
            long scale = Math.max(exact.scale(), Math.min(most, wish));
            return exact.setScale((int) scale);
        }
        int t = (int) ((den.bitLength() - num.abs().bitLength()) * 0.30103) + p + 3;
        while (!below(num.abs(), den, t, p)) {
            t--;
        }
        BigDecimal value = toScale(num, den, t, mode);
        if (value != null && value.precision() > p) {
            value = new BigDecimal(value.unscaledValue().divide(BigInteger.TEN), t - 1);
        }
        return value;
    }

    private static boolean below(BigInteger num, BigInteger den, int t, int p) {
        BigInteger up = t > 0 ? num.multiply(House.ten(t)) : num;
        BigInteger down = t < 0 ? den.multiply(House.ten(-t)) : den;
        return up.compareTo(down.multiply(House.ten(p))) < 0;
    }

    private static int someMode() {
        return RANDOM.nextInt(8);
    }

    private static int somePrecision() {
        return RANDOM.nextInt(3) == 0 ? 1 + RANDOM.nextInt(1000) : 1 + RANDOM.nextInt(20);
    }

    private static BigInteger numerator(BigDecimal a) {
        return a.scale() < 0 ? a.unscaledValue().multiply(House.ten(-a.scale())) : a.unscaledValue();
    }

    private static BigInteger denominator(BigDecimal a) {
        return a.scale() > 0 ? House.ten(a.scale()) : BigInteger.ONE;
    }

    private static void divisions(House h, BigDecimal a, BigDecimal b) {
        String of = " of " + show(a) + " and " + show(b);
        int mode = someMode();
        int p = somePrecision();
        if (b.signum() == 0) {
            check(h, "divide" + of, null, () -> h.x.divide(0, 1, 2, 0, mode));
            check(h, "quotient" + of, null, () -> h.x.quotient(0, 1, 2, 5, mode));
            return;
        }
        if (Math.abs((long) a.scale()) > 1600 || Math.abs((long) b.scale()) > 1600) {
            return;
        }
        BigInteger num = numerator(a).multiply(denominator(b));
        BigInteger den = denominator(a).multiply(numerator(b));
        BigInteger sign = BigInteger.valueOf(den.signum());
        BigInteger up = num.multiply(sign);
        BigInteger down = den.multiply(sign);
        int scale = a.scale() - b.scale() + b.precision() - a.precision() + RANDOM.nextInt(1010) - 5;
        if (RANDOM.nextBoolean()) {
            scale = a.scale() - b.scale() + RANDOM.nextInt(20);
        }
        int to = Math.max(-10000, Math.min(10000, scale));
        check(h, "divide to " + to + " by " + mode + of, toScale(up, down, to, mode),
                () -> h.x.divide(0, 1, 2, to, mode));
        long wish = (long) a.scale() - b.scale();
        check(h, "quotient to " + p + " by " + mode + of, toPrecision(up, down, p, wish, mode),
                () -> h.x.quotient(0, 1, 2, p, mode));
        BigDecimal exact = num.signum() == 0 ? new BigDecimal(BigInteger.ZERO, (int) wish) : exact(up, down);
        if (exact != null && exact.scale() < wish) {
            exact = exact.setScale((int) wish);
        }
        check(h, "quotient exactly" + of, exact, () -> h.x.quotient(0, 1, 2, 0, mode));
    }

    private static void shapes(House h, BigDecimal a) {
        int mode = someMode();
        int p = somePrecision();
        int near = Math.max(-10000, Math.min(10000, a.scale() + RANDOM.nextInt(60) - 40));
        BigDecimal scaled;
        try {
            scaled = a.setScale(near, MODES[mode]);
        } catch (ArithmeticException e) {
            scaled = null;
        }
        check(h, "to the scale " + near + " by " + mode + " " + show(a), scaled, () -> h.x.shape(0, 0, 2, near, mode));
        if (Math.abs(a.scale()) > 3000) {
            return;
        }
        check(h, "to the precision " + p + " by " + mode + " " + show(a),
                toPrecision(numerator(a), denominator(a), p, a.scale(), mode), () -> h.x.shape(1, 0, 2, p, mode));
        check(h, "root to " + p + " by " + mode + " of " + show(a), root(a, p, mode), () -> h.x.shape(2, 0, 2, p, mode));
        if (a.signum() > 0 && a.precision() < 490) {
            BigDecimal square = a.multiply(a);
            h.setDecimal(0, square);
            check(h, "root to " + p + " of the square of " + show(a), root(square, p, mode),
                    () -> h.x.shape(2, 0, 2, p, mode));
            h.setDecimal(0, a);
        }
    }

    private static BigDecimal root(BigDecimal a, int p, int mode) {
        if (a.signum() < 0) {
            return null;
        }
        int wish = Math.floorDiv(a.scale(), 2);
        BigInteger num = numerator(a);
        BigInteger den = denominator(a);
        if (a.scale() > 0 && a.scale() % 2 != 0) {
            num = num.multiply(BigInteger.TEN);
            den = den.multiply(BigInteger.TEN);
        }
        // sqrt(num / den), den a square of a power of ten: enough places to tell all but exactness.
        BigInteger raised = num.multiply(House.ten(2 * (p + 1600)));
        BigInteger whole = raised.sqrt();
        boolean exact = whole.multiply(whole).equals(raised);
        BigInteger up = exact ? whole : whole.multiply(BigInteger.TEN).add(BigInteger.ONE);
        BigInteger down = den.sqrt().multiply(House.ten(p + 1600)).multiply(exact ? BigInteger.ONE : BigInteger.TEN);
        return toPrecision(up, down, p, wish, mode);
    }

    private static void singles(House h, BigDecimal a) {
        int n = RANDOM.nextInt(3) == 0 ? RANDOM.nextInt(1000) : RANDOM.nextInt(12);
        BigDecimal power = null;
        if ((long) a.scale() * n <= 10000 && (long) a.scale() * n >= -10000
                && (a.unscaledValue().abs().bitLength() - 1) * (long) n < 3400) {
            power = new BigDecimal(a.unscaledValue().pow(n), a.scale() * n);
        }
        check(h, show(a) + " to the power " + n, power, () -> h.x.decimalBy(0, 0, n, 2));
        int less = RANDOM.nextInt(3000) - 1500;
        check(h, show(a) + " less " + less, new BigDecimal(a.unscaledValue(), a.scale() - less),
                () -> h.x.decimalBy(1, 0, less, 2));
        BigDecimal least = a.signum() == 0 ? BigDecimal.ZERO : a.stripTrailingZeros();
        check(h, show(a) + " least", least, () -> h.x.decimalBy(2, 0, 77, 2));
    }
}
