import java.math.BigDecimal;
import java.math.BigInteger;

/** Promise 13: divide. */
public final class Promise13Test {
    public static void main(String[] args) {
        allModes();
        Object[][] rows = {
            // a, b, scale, mode, number of the answer, or nothing
            {"1", "3", 5, 4, "33333"}, {"2", "3", 5, 6, "66667"}, {"-2", "3", 0, 1, "0"}, {"1", "8", 3, 7, "125"},
            {"1", "8", 2, 7, null}, {"1", "3", 900, 7, null}, {"0.00", "-7", 5, 0, "0"}, {"0", "3", -10000, 7, "0"},
            {"1", "1", 10000, 1, null}, {"1", "1", 999, 1, House.ten(999).toString()}, {"1", "1", 1000, 1, null},
            {"9", "9.1", 1000, 1, trunc(90, 91, 1000)}, {"1", "1", -10000, 0, "1"}, {"-1", "1", -10000, 3, "-1"},
            {"-1", "1", -10000, 2, "0"}, {"1", "1", -10000, 4, "0"}, {"1E+10000", "1E-10000", -10000, 1, null},
            {"1E+10000", "3E+10000", 4, 1, "3333"}, {"1E-10000", "1E+10000", 10000, 0, "1"}, {"5", "1", -1, 4, "1"},
            {"5", "1", -1, 5, "0"}, {"5", "1", -1, 6, "0"}, {"15", "1", -1, 6, "2"}, {"5.0000001", "1", -1, 5, "1"},
            {"4.99999", "1", -1, 4, "0"}, {"1E-999", "1", 0, 0, "1"}, {"-1E-999", "1", 0, 0, "-1"},
            {"1E-999", "1", 0, 7, null}, {"10", "4", 1, 7, "25"}, {"9.99", "1", 1, 4, "100"}, {"-9.99", "-1", 1, 0, "100"},
        };
        for (Object[] row : rows) {
            check(new BigDecimal((String) row[0]), new BigDecimal((String) row[1]), (int) row[2], (int) row[3],
                    (String) row[4]);
        }
        BigInteger nines = House.ten(1000).subtract(BigInteger.ONE);
        check(new BigDecimal(nines, 1), BigDecimal.ONE, 0, 1, nines.divide(BigInteger.TEN).toString());
        check(new BigDecimal(nines), BigDecimal.TEN, 0, 4, House.ten(999).toString());
        check(new BigDecimal(nines), new BigDecimal(nines), 999, 7, House.ten(999).toString());
        check(new BigDecimal(nines), new BigDecimal("0.99"), 0, 1, null);
        check(new BigDecimal(nines), new BigDecimal("1"), 0, 0, nines.toString());
        wrongCalls();
        House.end();
    }

    private static String trunc(int a, int b, int places) {
        return BigInteger.valueOf(a).multiply(House.ten(places)).divide(BigInteger.valueOf(b)).toString();
    }

    /** The table of the eight modes, for 5.5, 2.5, 1.6, 1.1, 1.0 and what is below 0. */
    private static void allModes() {
        String[] values = {"5.5", "2.5", "1.6", "1.1", "1.0", "-1.0", "-1.1", "-1.6", "-2.5", "-5.5", "0.4", "-0.4"};
        int[][] want = {
            {6, 3, 2, 2, 1, -1, -2, -2, -3, -6, 1, -1},
            {5, 2, 1, 1, 1, -1, -1, -1, -2, -5, 0, 0},
            {6, 3, 2, 2, 1, -1, -1, -1, -2, -5, 1, 0},
            {5, 2, 1, 1, 1, -1, -2, -2, -3, -6, 0, -1},
            {6, 3, 2, 1, 1, -1, -1, -2, -3, -6, 0, 0},
            {5, 2, 2, 1, 1, -1, -1, -2, -2, -5, 0, 0},
            {6, 2, 2, 1, 1, -1, -1, -2, -2, -6, 0, 0},
        };
        for (int i = 0; i < values.length; i++) {
            BigDecimal a = new BigDecimal(values[i]);
            for (int mode = 0; mode < 7; mode++) {
                check(a, BigDecimal.ONE, 0, mode, String.valueOf(want[mode][i]));
                check(a.multiply(BigDecimal.valueOf(-3)), BigDecimal.valueOf(-3), 0, mode, String.valueOf(want[mode][i]));
            }
            check(a, BigDecimal.ONE, 0, 7, values[i].endsWith(".0") ? values[i].replace(".0", "") : null);
        }
    }

    private static void check(BigDecimal a, BigDecimal b, int scale, int mode, String want) {
        House h = new House();
        h.setDecimal(0, a);
        h.setDecimal(1, b);
        String what = a + " divided by " + b + " to " + scale + " by " + mode;
        if (want == null) {
            h.refuses(what, House.ARITHMETIC, () -> h.x.divide(0, 1, 2, scale, mode));
            return;
        }
        h.x.divide(0, 1, 2, scale, mode);
        BigDecimal got = h.getDecimal(2);
        House.due(what, got.unscaledValue() + " " + got.scale(), want + " " + scale);
        h.x.divide(0, 1, 1, scale, mode);
        House.due(what + " in place", h.getDecimal(1), got);
        House.due("a stays", h.getDecimal(0), a);
    }

    private static void wrongCalls() {
        House h = new House();
        h.x.put(1, 1, 5);
        h.refuses("by 0", House.ARITHMETIC, () -> h.x.divide(1, 0, 2, 0, 0));
        h.refuses("0 by 0", House.ARITHMETIC, () -> h.x.divide(0, 0, 2, 0, 0));
        int[][] calls = {{-1, 1, 0, 0, 0}, {0, 10, 0, 0, 0}, {0, 1, -1, 0, 0}, {0, 1, 0, 10001, 0}, {0, 1, 0, -10001, 0},
            {0, 1, 0, 0, -1}, {0, 1, 0, 0, 8}, {0, 0, 0, 0, 8}, {0, 0, 0, Integer.MIN_VALUE, 0}};
        for (int[] call : calls) {
            h.refuses("divide with a wrong number", House.ILLEGAL_ARGUMENT,
                    () -> h.x.divide(call[0], call[1], call[2], call[3], call[4]));
        }
    }
}
