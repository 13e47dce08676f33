import java.math.BigInteger;

/** The sentences of the promises 8 to 10 that name an edge: whole, wholeBy and powerModulo. */
public final class EdgeWholeCallsTest {
    private static final BigInteger ONE = BigInteger.ONE;
    private static final BigInteger MOST = House.two(2048).subtract(ONE);

    public static void main(String[] args) {
        hows();
        bothNought();
        inverseOfOne();
        divisorNought();
        modulusNotAbove();
        noInverse();
        powers();
        roots();
        shifts();
        powersBelow();
        rootsOutside();
        rootsBelow();
        moduli();
        inversePowers();
        nothingModulo();
        moduliNotAbove();
        noInverseOfPowers();
        inPlace();
        House.end();
    }

    private static BigInteger of(long value) {
        return BigInteger.valueOf(value);
    }

    private static Twins.Setup with(BigInteger... values) {
        return Twins.furnished(h -> {
            for (int i = 0; i < values.length; i++) {
                h.setWhole(i + 1, values[i]);
            }
        });
    }

    private static void whole(int how, BigInteger a, BigInteger b, BigInteger want) {
        String what = "whole " + how + " of " + a + " and " + b;
        if (want == null) {
            Twins.refuses(what, House.ARITHMETIC, with(a, b), x -> x.whole(how, 1, 2, 3));
            return;
        }
        House h = new House();
        with(a, b).make(h);
        h.x.whole(how, 1, 2, 3);
        House.due(what, h.getWhole(3), want);
        House.due("a and b stay", h.getWhole(1) + " " + h.getWhole(2), a + " " + b);
    }

    private static void by(int how, BigInteger a, int n, BigInteger want) {
        String what = "wholeBy " + how + " of " + a + " by " + n;
        if (want == null) {
            Twins.refuses(what, House.ARITHMETIC, with(a), x -> x.wholeBy(how, 1, n, 3));
            return;
        }
        House h = new House();
        with(a).make(h);
        h.x.wholeBy(how, 1, n, 3);
        House.due(what, h.getWhole(3), want);
        House.due("a stays", h.getWhole(1), a);
    }

    private static void power(BigInteger a, BigInteger e, BigInteger m, BigInteger want) {
        String what = a + " to the " + e + " modulo " + m;
        if (want == null) {
            Twins.refuses(what, House.ARITHMETIC, with(a, e, m), x -> x.powerModulo(1, 2, 3, 4));
            Twins.refuses(what + " in place", House.ARITHMETIC, with(a, e, m), x -> x.powerModulo(1, 2, 3, 1));
            return;
        }
        House h = new House();
        with(a, e, m).make(h);
        h.x.powerModulo(1, 2, 3, 4);
        House.due(what, h.getWhole(4), want);
        House.due("the others stay", h.getWhole(1) + " " + h.getWhole(2) + " " + h.getWhole(3), a + " " + e + " " + m);
    }

    private static void hows() {
        House.sentence("or a number of what to do or tell (how, what, style) that there is not");
        Twins.range("whole", 0, 0, 11, (x, n) -> x.whole(n[0], n[1], n[2], n[3]), 0, 3, 4, 5);
        Twins.range("wholeBy", 0, 0, 2, (x, n) -> x.wholeBy(n[0], n[1], n[2], n[3]), 0, 3, 2, 5);
    }

    private static void bothNought() {
        House.sentence("the greatest integer that divides both, 0 if both are 0 (6)");
        whole(6, of(0), of(0), of(0));
        whole(6, of(0), of(1), of(1));
        whole(6, of(-1), of(0), of(1));
        whole(6, of(0), of(-6), of(6));
        whole(6, of(-12), of(-18), of(6));
        whole(6, of(12), of(12), of(12));
        whole(6, of(1), MOST, of(1));
        whole(6, MOST.negate(), of(0), MOST);
        whole(6, House.two(2047), House.two(1024), House.two(1024));
    }

    private static void inverseOfOne() {
        House.sentence("the integer from 0 up to b - 1 that times a is 1 modulo b, 0 for the b 1 (7)");
        whole(7, of(0), of(1), of(0));
        whole(7, of(5), of(1), of(0));
        whole(7, MOST.negate(), of(1), of(0));
        whole(7, of(1), of(2), of(1));
        whole(7, of(-1), of(2), of(1));
        whole(7, of(3), of(2), of(1));
        whole(7, of(1), MOST, of(1));
        whole(7, of(-1), MOST, MOST.subtract(ONE));
        whole(7, of(2), MOST, House.two(2047));
        whole(7, MOST.subtract(ONE), MOST, MOST.subtract(ONE));
        whole(7, of(3), of(7), of(5));
        whole(7, of(10), of(7), of(5));
        whole(7, of(-4), of(7), of(5));
    }

    private static void divisorNought() {
        House.sentence("ArithmeticException, too: b is 0 (3, 4)");
        for (BigInteger a : new BigInteger[] {of(0), of(1), of(-1), MOST}) {
            whole(3, a, of(0), null);
            whole(4, a, of(0), null);
            whole(3, a, of(1), a);
            whole(4, a, of(1), of(0));
            whole(3, a, of(-1), a.negate());
            whole(4, a, of(-1), of(0));
        }
    }

    private static void modulusNotAbove() {
        House.sentence("b is not above 0 (5, 7)");
        for (BigInteger a : new BigInteger[] {of(0), of(1), of(-1), MOST}) {
            for (BigInteger b : new BigInteger[] {of(0), of(-1), of(-2), MOST.negate()}) {
                whole(5, a, b, null);
                whole(7, a, b, null);
            }
            whole(5, a, of(1), of(0));
            whole(7, a, of(1), of(0));
        }
    }

    private static void noInverse() {
        House.sentence("there is none such (7)");
        whole(7, of(0), of(2), null);
        whole(7, of(2), of(2), null);
        whole(7, of(2), of(4), null);
        whole(7, of(-2), of(4), null);
        whole(7, of(3), of(4), of(3));
        whole(7, of(6), of(9), null);
        whole(7, of(7), of(9), of(4));
        whole(7, MOST, MOST, null);
        whole(7, of(0), MOST, null);
        for (int bits : new int[] {31, 32, 62, 63, 64, 93, 1000}) {
            BigInteger both = House.two(bits).add(ONE);
            whole(7, both, both.multiply(of(3)), null);
            whole(7, both.multiply(of(2)), both.multiply(of(3)), null);
            whole(7, both.negate(), both.multiply(of(2)), null);
            power(both, of(-1), both.multiply(of(3)), null);
            whole(7, both, both.add(ONE), both);
        }
        whole(7, House.two(2046), House.two(2047), null);
        whole(7, House.two(2047).subtract(ONE), House.two(2047), House.two(2047).subtract(ONE));
    }

    private static void powers() {
        House.sentence("a to the power n, 1 to the power 0 (how = 0)");
        for (BigInteger a : new BigInteger[] {of(0), of(1), of(-1), of(2), of(-7), MOST, MOST.negate()}) {
            by(0, a, 0, of(1));
            by(0, a, 1, a);
        }
        by(0, of(0), Integer.MAX_VALUE, of(0));
        by(0, of(1), Integer.MAX_VALUE, of(1));
        by(0, of(-1), Integer.MAX_VALUE, of(-1));
        by(0, of(-1), Integer.MAX_VALUE - 1, of(1));
        by(0, of(2), Integer.MAX_VALUE, null);
        by(0, of(-2), Integer.MAX_VALUE, null);
    }

    private static void roots() {
        House.sentence("the greatest integer of which the power n is not greater than a (1)");
        for (int n : new int[] {1, 2, 3, 5, 31, 63, 64}) {
            by(1, of(0), n, of(0));
            by(1, of(1), n, of(1));
            for (BigInteger root : new BigInteger[] {of(2), of(3), of(10), of(0x7fffffff), of(0xffffffffL)}) {
                BigInteger power = root.pow(n);
                if (power.bitLength() <= 2048) {
                    by(1, power, n, root);
                    by(1, power.subtract(ONE), n, root.subtract(ONE));
                    by(1, power.add(ONE).min(MOST), n, n == 1 ? power.add(ONE).min(MOST) : root);
                }
            }
        }
        by(1, MOST, 1, MOST);
        by(1, MOST, 2, House.two(1024).subtract(ONE));
        by(1, House.two(1024).subtract(ONE).pow(2), 2, House.two(1024).subtract(ONE));
        by(1, House.two(1024).subtract(ONE).pow(2).subtract(ONE), 2, House.two(1024).subtract(of(2)));
        by(1, MOST, 64, of(0xffffffffL));
        by(1, MOST, 63, root(MOST, 63));
    }

    private static BigInteger root(BigInteger a, int n) {
        BigInteger low = BigInteger.ZERO;
        BigInteger high = a.add(ONE);
        while (high.subtract(low).compareTo(ONE) > 0) {
            BigInteger middle = low.add(high).shiftRight(1);
            boolean fits = middle.bitLength() <= 2049 / n + 1 && middle.pow(n).compareTo(a) <= 0;
            low = fits ? middle : low;
            high = fits ? high : middle;
        }
        return low;
    }

    private static void shifts() {
        House.sentence("a times 2 to the n, for n below 0 a divided by 2 to the -n, rounded to the next integer that is not greater (2)");
        for (BigInteger a : new BigInteger[] {of(0), of(1), of(-1), of(5), of(-5), of(8), of(-8), MOST, MOST.negate(), House.two(2047).negate()}) {
            for (int n : new int[] {0, -1, -2, -3, -4, -30, -31, -32, -62, -63, -2046, -2047, -2048, -2049, -5000, Integer.MIN_VALUE, Integer.MIN_VALUE + 1}) {
                BigInteger want = n < -3000 ? of(a.signum() < 0 ? -1 : 0) : a.shiftRight(-n);
                by(2, a, n, want);
            }
        }
        for (int n : new int[] {1, 30, 31, 32, 61, 62, 63, 2046, 2047}) {
            by(2, of(1), n, House.two(n));
            by(2, of(-1), n, House.two(n).negate());
            by(2, of(0), n, of(0));
        }
        by(2, of(3), 2046, of(3).shiftLeft(2046));
        by(2, of(3), 2047, null);
        by(2, of(-3), 2047, null);
        by(2, MOST, 1, null);
        by(2, of(0), 2048, of(0));
        by(2, of(0), Integer.MAX_VALUE, of(0));
        by(2, of(1), 2049, null);
    }

    private static void powersBelow() {
        House.sentence("IllegalArgumentException, too: n is below 0 (0)");
        for (BigInteger a : new BigInteger[] {of(0), of(1), of(-1), of(7), MOST}) {
            for (int n : new int[] {-1, -2, Integer.MIN_VALUE}) {
                Twins.refuses("the power " + n, House.ILLEGAL_ARGUMENT, with(a), x -> x.wholeBy(0, 1, n, 3));
            }
            Twins.takes("the power 0", with(a), x -> x.wholeBy(0, 1, 0, 3));
        }
    }

    private static void rootsOutside() {
        House.sentence("or not 1 .. 64 (1)");
        for (BigInteger a : new BigInteger[] {of(0), of(1), of(7), of(-7), MOST}) {
            for (int n : new int[] {0, -1, 65, 66, Integer.MIN_VALUE, Integer.MAX_VALUE}) {
                Twins.refuses("the root " + n, House.ILLEGAL_ARGUMENT, with(a), x -> x.wholeBy(1, 1, n, 3));
            }
        }
        Twins.takes("the root 1", with(MOST), x -> x.wholeBy(1, 1, 1, 3));
        Twins.takes("the root 64", with(MOST), x -> x.wholeBy(1, 1, 64, 3));
        for (int n : new int[] {0, 65, -1, Integer.MIN_VALUE}) {
            Twins.takes("a shift has no such edge", with(of(0)), x -> x.wholeBy(2, 1, n, 3));
        }
    }

    private static void rootsBelow() {
        House.sentence("ArithmeticException, too: a is below 0 (1).");
        for (int n : new int[] {1, 2, 3, 64}) {
            by(1, of(-1), n, null);
            by(1, of(-27), n, null);
            by(1, MOST.negate(), n, null);
            by(1, of(0), n, of(0));
        }
    }

    private static void moduli() {
        House.sentence("Wholes: a to the power e, modulo m");
        for (BigInteger m : new BigInteger[] {of(1), of(2), of(7), House.two(31), House.two(62), MOST, House.two(2047)}) {
            for (BigInteger a : new BigInteger[] {of(0), of(1), of(-1), of(2), of(-8), MOST, MOST.negate()}) {
                for (BigInteger e : new BigInteger[] {of(0), of(1), of(2), of(3), House.two(31), House.two(64)}) {
                    power(a, e, m, a.modPow(e, m));
                }
            }
        }
        power(of(3), MOST, MOST, of(3).modPow(MOST, MOST));
    }

    private static void inversePowers() {
        House.sentence("with e below 0 the inverse of a modulo m to the power -e");
        power(of(3), of(-1), of(7), of(5));
        power(of(3), of(-2), of(7), of(4));
        power(of(-3), of(-1), of(7), of(2));
        power(of(10), of(-3), of(7), of(10).modPow(of(-3), of(7)));
        power(of(0), of(-1), of(1), of(0));
        power(of(5), MOST.negate(), of(1), of(0));
        power(of(2), of(-1), MOST, House.two(2047));
        power(of(1), MOST.negate(), MOST, of(1));
        power(of(-1), of(-1), of(2), of(1));
    }

    private static void nothingModulo() {
        House.sentence("Wholes: a to the power e, modulo m");
        power(of(0), of(0), of(5), of(1));
        power(of(0), of(0), of(1), of(0));
        power(of(5), of(0), of(1), of(0));
        power(of(5), of(0), of(2), of(1));
        power(of(0), of(1), of(5), of(0));
        power(MOST, MOST, of(1), of(0));
    }

    private static void moduliNotAbove() {
        House.sentence("ArithmeticException, too: m is not above 0");
        for (BigInteger m : new BigInteger[] {of(0), of(-1), of(-7), MOST.negate()}) {
            power(of(3), of(2), m, null);
            power(of(0), of(0), m, null);
            power(of(1), of(-1), m, null);
        }
        power(of(3), of(2), of(1), of(0));
    }

    private static void noInverseOfPowers() {
        House.sentence("or e is below 0 and a has no inverse");
        power(of(2), of(-1), of(4), null);
        power(of(0), of(-1), of(2), null);
        power(of(6), MOST.negate(), of(9), null);
        power(MOST, of(-1), MOST, null);
        power(of(2), of(0), of(4), of(1));
        power(of(2), of(1), of(4), of(2));
        power(of(3), of(-1), of(4), of(3));
    }

    private static void inPlace() {
        House.sentence("void powerModulo(int a, int e, int m, int to)");
        for (int to = 1; to <= 3; to++) {
            House h = new House();
            with(of(3), of(5), of(7)).make(h);
            h.x.powerModulo(1, 2, 3, to);
            House.due("the answer in register " + to, h.getWhole(to), 5);
            for (int how = 0; how < 12; how++) {
                House g = new House();
                with(of(3), of(5)).make(g);
                g.x.whole(how, 1, 2, 3);
                BigInteger want = g.getWhole(3);
                g.x.whole(how, 1, 2, Math.min(to, 2));
                House.due("whole " + how + " in place", g.getWhole(Math.min(to, 2)), want);
            }
        }
    }
}
