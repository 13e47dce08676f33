import java.math.BigInteger;

/** Promise 9: wholeBy. */
public final class Promise09Test {
    private static final BigInteger MOST = House.two(2048).subtract(BigInteger.ONE);

    public static void main(String[] args) {
        powers();
        roots();
        shifts();
        wrongCalls();
        House.end();
    }

    private static void by(int how, BigInteger a, int n, BigInteger want) {
        House h = new House();
        h.setWhole(1, a);
        String what = "wholeBy " + how + " of " + a + " by " + n;
        if (want == null) {
            h.refuses(what, House.ARITHMETIC, () -> h.x.wholeBy(how, 1, n, 2));
            return;
        }
        h.x.wholeBy(how, 1, n, 2);
        House.due(what, h.getWhole(2), want);
        House.due("a stays", h.getWhole(1), a);
        h.x.wholeBy(how, 1, n, 1);
        House.due(what + " in place", h.getWhole(1), want);
    }

    private static BigInteger of(long value) {
        return BigInteger.valueOf(value);
    }

    private static void powers() {
        by(0, of(3), 4, of(81));
        by(0, of(-3), 3, of(-27));
        by(0, of(-3), 4, of(81));
        by(0, of(0), 0, of(1));
        by(0, of(7), 0, of(1));
        by(0, of(7), 1, of(7));
        by(0, of(0), Integer.MAX_VALUE, of(0));
        by(0, of(1), Integer.MAX_VALUE, of(1));
        by(0, of(-1), Integer.MAX_VALUE, of(-1));
        by(0, of(-1), Integer.MAX_VALUE - 1, of(1));
        by(0, of(2), 2047, House.two(2047));
        by(0, of(-2), 2047, House.two(2047).negate());
        by(0, of(2), 2048, null);
        by(0, of(-2), 2048, null);
        by(0, of(2), Integer.MAX_VALUE, null);
        by(0, of(10), 616, House.ten(616));
        by(0, of(10), 617, null);
        by(0, MOST, 1, MOST);
        by(0, MOST, 2, null);
        by(0, MOST, 0, of(1));
        by(0, House.two(1024).subtract(of(1)), 2, House.two(1024).subtract(of(1)).pow(2));
        by(0, House.two(1024), 2, null);
    }

    private static void roots() {
        by(1, of(0), 5, of(0));
        by(1, of(1), 64, of(1));
        by(1, of(99), 1, of(99));
        by(1, of(99), 2, of(9));
        by(1, of(100), 2, of(10));
        by(1, of(26), 3, of(2));
        by(1, of(27), 3, of(3));
        by(1, of(27), 4, of(2));
        by(1, of(Long.MAX_VALUE), 63, of(1));
        by(1, House.two(63), 63, of(2));
        by(1, House.two(64).subtract(of(1)), 64, of(1));
        by(1, House.two(64), 64, of(2));
        by(1, MOST, 1, MOST);
        by(1, MOST, 2, House.two(1024).subtract(of(1)));
        by(1, MOST, 64, House.two(32).subtract(of(1)));
        by(1, House.ten(600), 60, House.ten(10));
        by(1, House.ten(600).subtract(of(1)), 60, House.ten(10).subtract(of(1)));
        by(1, of(-1), 3, null);
        by(1, MOST.negate(), 2, null);
    }

    private static void shifts() {
        by(2, of(5), 3, of(40));
        by(2, of(-5), 3, of(-40));
        by(2, of(5), 0, of(5));
        by(2, of(5), -1, of(2));
        by(2, of(-5), -1, of(-3));
        by(2, of(-4), -2, of(-1));
        by(2, of(-4), -3, of(-1));
        by(2, of(-1), Integer.MIN_VALUE, of(-1));
        by(2, of(1), Integer.MIN_VALUE, of(0));
        by(2, of(0), Integer.MAX_VALUE, of(0));
        by(2, of(0), Integer.MIN_VALUE, of(0));
        by(2, of(1), 2047, House.two(2047));
        by(2, of(-1), 2047, House.two(2047).negate());
        by(2, of(1), 2048, null);
        by(2, of(-1), 2048, null);
        by(2, of(1), Integer.MAX_VALUE, null);
        by(2, MOST, 1, null);
        by(2, MOST, -2047, of(1));
        by(2, MOST, -2048, of(0));
        by(2, MOST.negate(), -2047, of(-2));
        by(2, MOST.negate(), -2048, of(-1));
        by(2, MOST.negate(), -5000, of(-1));
    }

    private static void wrongCalls() {
        House h = new House();
        h.x.put(0, 0, -9);
        int[][] calls = {{-1, 0, 1, 0}, {3, 0, 1, 0}, {0, -1, 1, 0}, {0, 10, 1, 0}, {0, 0, 1, 10}, {0, 0, -1, 0},
            {0, 0, Integer.MIN_VALUE, 0}, {1, 0, 0, 0}, {1, 0, 65, 0}, {1, 0, -1, 0}, {2, 10, 0, 0}, {2, 0, 0, -1}};
        for (int[] call : calls) {
            h.refuses("wholeBy " + call[0] + " " + call[1] + " " + call[2] + " " + call[3], House.ILLEGAL_ARGUMENT,
                    () -> h.x.wholeBy(call[0], call[1], call[2], call[3]));
        }
    }
}
