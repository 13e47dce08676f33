import java.math.BigInteger;
import java.util.Random;

/** Wholes of all sizes against BigInteger, with a fixed seed. */
public final class OracleWholesTest {
    private static final Random RANDOM = new Random(20261115);
    private static final BigInteger LIMIT = House.two(2048);

    public static void main(String[] args) {
        for (int round = 0; round < 400; round++) {
            House h = new House();
            BigInteger a = some();
            BigInteger b = RANDOM.nextInt(6) == 0 ? a.add(BigInteger.valueOf(RANDOM.nextInt(5) - 2)) : some();
            if (b.abs().compareTo(LIMIT) >= 0) {
                b = a;
            }
            h.setWhole(0, a);
            h.setWhole(1, b);
            House.due("text of " + a, h.getWhole(0), a);
            texts(h, a);
            tellings(h, a);
            House.due("compare " + a + " " + b, h.x.compare(0, 0, 1), a.compareTo(b));
            for (int how = 0; how <= 11; how++) {
                pair(h, how, a, b);
            }
            singles(h, a);
            if (round % 8 == 0) {
                modular(h, a, b, some());
            }
        }
        House.end();
    }

    /** Any size, with long rows of ones and zeros in its bits, where limbs go wrong. */
    private static BigInteger some() {
        int bits = RANDOM.nextInt(5) == 0 ? 2048 - RANDOM.nextInt(3) : RANDOM.nextInt(2049);
        if (RANDOM.nextInt(3) == 0) {
            bits = RANDOM.nextInt(130);
        }
        BigInteger value = new BigInteger(bits, RANDOM);
        int kind = RANDOM.nextInt(6);
        if (kind == 0) {
            value = House.two(bits).subtract(BigInteger.ONE);
        } else if (kind == 1 && bits < 2048) {
            value = House.two(bits);
        } else if (kind == 2) {
            int low = RANDOM.nextInt(bits + 1);
            value = House.two(bits).subtract(House.two(low));
        }
        return RANDOM.nextBoolean() ? value.negate() : value;
    }

    private static void texts(House h, BigInteger a) {
        int base = 2 + RANDOM.nextInt(35);
        House.due("print to " + base, h.printed(0, 0, base), a.toString(base));
        String text = a.toString(base);
        text = RANDOM.nextBoolean() ? text.toUpperCase() : text;
        House.due("read", h.reads(0, 2, base, text), true);
        House.due("read to " + base, h.getWhole(2), a);
    }

    private static void tellings(House h, BigInteger a) {
        House.due("low bits of " + a, h.x.told(0, 0, 0), a.longValue());
        House.due("sign of " + a, h.x.told(0, 0, 1), a.signum());
        House.due("length of " + a, h.x.told(0, 0, 2), a.bitLength());
        House.due("other bits of " + a, h.x.told(0, 0, 3), a.bitCount());
        House.due("lowest bit of " + a, h.x.told(0, 0, 4), a.getLowestSetBit());
    }

    private static BigInteger expected(int how, BigInteger a, BigInteger b) {
        try {
            switch (how) {
                case 0: return a.add(b);
                case 1: return a.subtract(b);
                case 2: return a.multiply(b);
                case 3: return a.divide(b);
                case 4: return a.remainder(b);
                case 5: return a.mod(b);
                case 6: return a.gcd(b);
                case 7: return a.modInverse(b);
                case 8: return a.and(b);
                case 9: return a.or(b);
                case 10: return a.xor(b);
                default: return a.andNot(b);
            }
        } catch (ArithmeticException e) {
            return null;
        }
    }

    private static void check(House h, String what, BigInteger want, House.Call call) {
        boolean fits = want != null && want.abs().compareTo(LIMIT) < 0;
        House.due(what + " throws", House.thrown(call), fits ? 0 : House.ARITHMETIC);
        if (fits) {
            House.due(what, h.getWhole(3), want);
        }
    }

    private static void pair(House h, int how, BigInteger a, BigInteger b) {
        check(h, "whole " + how + " of " + a + " and " + b, expected(how, a, b), () -> h.x.whole(how, 0, 1, 3));
    }

    private static void singles(House h, BigInteger a) {
        int n = RANDOM.nextInt(40);
        BigInteger power = a.bitLength() * (long) n > 5000 ? null : a.pow(n);
        check(h, a + " to the " + n, power, () -> h.x.wholeBy(0, 0, n, 3));
        int root = RANDOM.nextInt(3) == 0 ? 2 : 1 + RANDOM.nextInt(64);
        if (a.signum() < 0) {
            check(h, "root", null, () -> h.x.wholeBy(1, 0, root, 3));
        } else {
            h.x.wholeBy(1, 0, root, 3);
            BigInteger found = h.getWhole(3);
            House.due(root + ". root of " + a + " not too great", found.pow(root).compareTo(a) <= 0, true);
            House.due(root + ". root of " + a + " not too small",
                    found.add(BigInteger.ONE).pow(root).compareTo(a) > 0, true);
        }
        int shift = RANDOM.nextInt(4200) - 2100;
        check(h, a + " shifted by " + shift, a.shiftLeft(shift), () -> h.x.wholeBy(2, 0, shift, 3));
    }

    private static void modular(House h, BigInteger a, BigInteger e, BigInteger m) {
        BigInteger power = e.shiftRight(RANDOM.nextInt(2000));
        h.setWhole(1, power);
        h.setWhole(2, m);
        BigInteger want;
        try {
            want = a.modPow(power, m);
        } catch (ArithmeticException x) {
            want = null;
        }
        check(h, a + " to the " + power + " modulo " + m, want, () -> h.x.powerModulo(0, 1, 2, 3));
    }
}
