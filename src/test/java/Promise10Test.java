import java.math.BigInteger;

/** Promise 10: powerModulo. */
public final class Promise10Test {
    public static void main(String[] args) {
        long[][] rows = {
            // a, e, m, answer
            {3, 4, 5, 1}, {-3, 3, 5, 3}, {2, 0, 5, 1}, {0, 0, 5, 1}, {0, 7, 5, 0}, {2, 0, 1, 0}, {7, 3, 1, 0},
            {3, -1, 7, 5}, {3, -2, 7, 4}, {-3, -1, 7, 2}, {5, -3, 1, 0}, {0, -1, 1, 0}, {10, 20, 7, 2}, {6, 2, 4, 0},
            {2, 62, Long.MAX_VALUE, 1L << 62}, {Long.MIN_VALUE, 1, Long.MAX_VALUE, Long.MAX_VALUE - 1},
        };
        House h = new House();
        for (long[] row : rows) {
            for (int i = 0; i < 3; i++) {
                h.x.put(0, i, row[i]);
            }
            h.x.powerModulo(0, 1, 2, 3);
            House.due(row[0] + " to the " + row[1] + " modulo " + row[2], h.getWhole(3), row[3]);
        }
        great();
        wrongCalls();
        House.end();
    }

    private static void great() {
        House h = new House();
        BigInteger m = House.two(2048).subtract(BigInteger.valueOf(1942289));
        BigInteger a = House.two(2047).add(BigInteger.valueOf(12345));
        BigInteger e = House.two(2048).subtract(BigInteger.ONE);
        h.setWhole(0, a.negate());
        h.setWhole(1, e);
        h.setWhole(2, m);
        h.x.powerModulo(0, 1, 2, 3);
        House.due("a great power", h.getWhole(3), a.negate().modPow(e, m));
        h.x.powerModulo(2, 2, 2, 2);
        House.due("all in one register", h.getWhole(2), 0);
        h.setWhole(1, e.negate());
        h.setWhole(2, House.two(2047));
        h.x.powerModulo(0, 1, 2, 0);
        House.due("a great power of an inverse", h.getWhole(0), a.negate().modPow(e.negate(), House.two(2047)));
    }

    private static void wrongCalls() {
        House h = new House();
        h.x.put(0, 1, 4);
        h.x.put(0, 2, -1);
        h.x.put(0, 3, 6);
        h.refuses("modulo 0", House.ARITHMETIC, () -> h.x.powerModulo(1, 1, 0, 4));
        h.refuses("modulo below 0", House.ARITHMETIC, () -> h.x.powerModulo(1, 1, 2, 4));
        h.refuses("no inverse", House.ARITHMETIC, () -> h.x.powerModulo(1, 2, 3, 4));
        h.refuses("no inverse of 0", House.ARITHMETIC, () -> h.x.powerModulo(0, 2, 3, 4));
        int[][] calls = {{-1, 0, 0, 0}, {0, 10, 0, 0}, {0, 0, -1, 0}, {0, 0, 0, 10}, {10, 0, 3, 0}};
        for (int[] call : calls) {
            h.refuses("powerModulo " + call[0] + " " + call[1] + " " + call[2] + " " + call[3],
                    House.ILLEGAL_ARGUMENT, () -> h.x.powerModulo(call[0], call[1], call[2], call[3]));
        }
    }
}
