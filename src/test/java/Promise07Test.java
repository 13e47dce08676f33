import java.math.BigDecimal;
import java.math.BigInteger;

/** Promise 7: compare. */
public final class Promise07Test {
    public static void main(String[] args) {
        House h = new House();
        BigInteger far = House.two(2048).subtract(BigInteger.ONE);
        BigInteger[] wholes = {far.negate(), House.two(62).negate(), BigInteger.ONE.negate(), BigInteger.ZERO,
            BigInteger.ONE, BigInteger.TWO, House.two(31), House.two(62), far.subtract(BigInteger.ONE), far};
        for (int a = 0; a < 10; a++) {
            h.setWhole(a, wholes[a]);
        }
        inOrder(h, 0);
        String[] decimals = {"-9E+9999", "-1E+1", "-9.99", "-1E-10000", "0E+5", "1E-10000", "2E-10000", "0.5", "10.1",
            "1E+10000"};
        for (int a = 0; a < 10; a++) {
            h.setDecimal(a, new BigDecimal(decimals[a]));
        }
        inOrder(h, 1);
        double[] wide = {Double.NEGATIVE_INFINITY, -1e300, -1, -Double.MIN_VALUE, 0, Double.MIN_VALUE, 0.1, 1, 1e300,
            Double.POSITIVE_INFINITY};
        float[] narrow = {Float.NEGATIVE_INFINITY, -1e30f, -1, -Float.MIN_VALUE, -0.0f, Float.MIN_VALUE, 0.1f, 1,
            1e30f, Float.POSITIVE_INFINITY};
        for (int a = 0; a < 10; a++) {
            h.x.put(2, a, Double.doubleToRawLongBits(wide[a]));
            h.x.put(3, a, Float.floatToRawIntBits(narrow[a]) & 0xffffffffL);
        }
        inOrder(h, 2);
        inOrder(h, 3);
        sameValues();
        wrongCalls();
        House.end();
    }

    private static void inOrder(House h, int kind) {
        for (int a = 0; a < 10; a++) {
            for (int b = 0; b < 10; b++) {
                House.due("compare " + kind + " " + a + " " + b, h.x.compare(kind, a, b), Integer.compare(a, b));
            }
        }
    }

    private static void sameValues() {
        House h = new House();
        h.setDecimal(0, new BigDecimal("1.500"));
        h.setDecimal(1, new BigDecimal("1.5"));
        House.due("scales do not count", h.x.compare(1, 0, 1), 0);
        h.setDecimal(0, new BigDecimal("0E+9999"));
        h.setDecimal(1, new BigDecimal("0E-9999"));
        House.due("0 is 0", h.x.compare(1, 0, 1), 0);
        h.setDecimal(0, new BigDecimal(House.ten(999), 999));
        h.x.put(1, 1, 1);
        House.due("1 is 1", h.x.compare(1, 1, 0), 0);
        h.setDecimal(0, new BigDecimal(House.ten(999).add(BigInteger.ONE), 999));
        House.due("a little more", h.x.compare(1, 1, 0), -1);
        h.x.put(2, 0, Long.MIN_VALUE);
        h.x.put(3, 0, 0x80000000L);
        House.due("wide minus zero", h.x.compare(2, 0, 1), 0);
        House.due("narrow minus zero", h.x.compare(3, 1, 0), 0);
    }

    private static void wrongCalls() {
        House h = new House();
        h.x.put(2, 0, 0x7ff8000000000000L);
        h.x.put(2, 2, 0xfff0000000000001L);
        h.x.put(3, 0, 0x7fc00000L);
        h.refuses("no number first", House.ARITHMETIC, () -> h.x.compare(2, 0, 1));
        h.refuses("no number second", House.ARITHMETIC, () -> h.x.compare(2, 1, 2));
        h.refuses("no number twice", House.ARITHMETIC, () -> h.x.compare(2, 0, 0));
        h.refuses("no narrow number", House.ARITHMETIC, () -> h.x.compare(3, 1, 0));
        int[][] calls = {{-1, 0, 0}, {4, 0, 0}, {0, -1, 0}, {0, 0, 10}, {1, 10, 0}, {2, 0, -1}, {3, 10, 10}};
        for (int[] call : calls) {
            h.refuses("compare " + call[0] + " " + call[1] + " " + call[2], House.ILLEGAL_ARGUMENT,
                    () -> h.x.compare(call[0], call[1], call[2]));
        }
    }
}
