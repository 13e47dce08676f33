import java.math.BigDecimal;
import java.math.BigInteger;

/** Promise 12: decimalBy. */
public final class Promise12Test {
    public static void main(String[] args) {
        Object[][] rows = {
            // how, a, n, number and scale of the answer, or nothing
            {0, "1.5", 3, "3375 3"}, {0, "-1.5", 3, "-3375 3"}, {0, "-2E+3", 2, "4 -6"}, {0, "7.25", 0, "1 0"},
            {0, "0.00", 0, "1 0"}, {0, "0.00", 5, "0 10"}, {0, "1E-10", 999, "1 9990"}, {0, "1E-11", 909, "1 9999"},
            {0, "1E-11", 910, null}, {0, "1E+11", 910, null}, {0, "0E-11", 910, null}, {0, "10", 999, House.ten(999) + " 0"},
            {0, "100", 500, null}, {0, "100", 499, House.ten(998) + " 0"}, {0, "-1", 999, "-1 0"}, {0, "9", 999, power(9, 999)},
            {0, "11", 999, null}, {0, "1E-10000", 1, "1 10000"}, {0, "1E-10000", 2, null}, {0, "1E-10000", 0, "1 0"},
            {1, "1.5", 3, "15 -2"}, {1, "1.5", -3, "15 4"}, {1, "1.5", 0, "15 1"}, {1, "1E-10000", 20000, "1 -10000"},
            {1, "1E-10000", 20001, null}, {1, "1", -10001, null}, {1, "0", 10001, null}, {1, "0", -10000, "0 10000"},
            {1, "1", Integer.MIN_VALUE, null}, {1, "1", Integer.MAX_VALUE, null},
            {2, "1.500", 0, "15 1"}, {2, "-1500", 99, "-15 -2"}, {2, "0.00", -5, "0 0"}, {2, "0E+7", Integer.MIN_VALUE, "0 0"},
            {2, "7", 1, "7 0"}, {2, "1E-10000", 1, "1 10000"}, {2, "10E+9999", 1, "1 -10000"}, {2, "10E+10000", 1, null},
            {2, "100E+9999", 1, null},
        };
        for (Object[] row : rows) {
            check((int) row[0], new BigDecimal((String) row[1]), (int) row[2], (String) row[3]);
        }
        check(2, new BigDecimal(House.ten(999), 20), 5, "1 -979");
        check(2, new BigDecimal(House.ten(999), -9500), 5, null);
        BigInteger nines = House.ten(500).subtract(BigInteger.ONE);
        check(0, new BigDecimal(nines, 3), 2, nines.pow(2) + " 6");
        check(0, new BigDecimal(House.ten(500), 3), 2, null);
        wrongCalls();
        House.end();
    }

    private static String power(int base, int n) {
        return BigInteger.valueOf(base).pow(n) + " 0";
    }

    private static void check(int how, BigDecimal a, int n, String want) {
        House h = new House();
        h.setDecimal(0, a);
        String what = "decimalBy " + how + " of " + a + " by " + n;
        if (want == null) {
            h.refuses(what, House.ARITHMETIC, () -> h.x.decimalBy(how, 0, n, 2));
            return;
        }
        h.x.decimalBy(how, 0, n, 2);
        BigDecimal got = h.getDecimal(2);
        House.due(what, got.unscaledValue() + " " + got.scale(), want);
        House.due("a stays", h.getDecimal(0), a);
        h.x.decimalBy(how, 0, n, 0);
        House.due(what + " in place", h.getDecimal(0), got);
    }

    private static void wrongCalls() {
        House h = new House();
        int[][] calls = {{-1, 0, 1, 0}, {3, 0, 1, 0}, {0, 10, 1, 0}, {0, 0, 1, -1}, {0, 0, -1, 0}, {0, 0, 1000, 0},
            {1, 10, 0, 0}, {1, 0, 0, 10}, {2, -1, 0, 0}};
        for (int[] call : calls) {
            h.refuses("decimalBy " + call[0] + " " + call[1] + " " + call[2] + " " + call[3], House.ILLEGAL_ARGUMENT,
                    () -> h.x.decimalBy(call[0], call[1], call[2], call[3]));
        }
    }
}
