import java.math.BigDecimal;
import java.math.BigInteger;

/** Promise 14: quotient. */
public final class Promise14Test {
    public static void main(String[] args) {
        Object[][] rows = {
            // a, b, precision, mode, number and scale of the answer, or nothing
            {"1", "3", 5, 4, "33333 5"}, {"2", "3", 5, 1, "66666 5"}, {"-2", "3", 3, 3, "-667 3"}, {"1", "3", 5, 7, null},
            {"6", "2", 9, 7, "3 0"}, {"6.00", "2", 9, 7, "300 2"}, {"6.00", "2", 2, 7, "30 1"}, {"6", "2.00", 9, 7, "3 0"},
            {"600", "2.00", 9, 7, "3 -2"}, {"1", "8", 9, 0, "125 3"}, {"1", "8", 2, 0, "13 2"}, {"1", "8", 3, 0, "125 3"},
            {"999.9", "1", 3, 4, "100 -1"}, {"-999.9", "1", 3, 0, "-100 -1"}, {"99.95", "1", 3, 6, "100 0"},
            {"99.85", "1", 3, 6, "998 1"}, {"95", "1", 1, 4, "1 -2"}, {"94", "1", 1, 4, "9 -1"}, {"100", "1", 1, 7, "1 -2"},
            {"0.00", "7.0", 5, 0, "0 1"}, {"0", "7.000", 5, 7, "0 -3"}, {"0E-10000", "1E+1", 5, 7, null},
            {"0E-9999", "1E+1", 5, 7, "0 10000"}, {"1E-10000", "1E+1", 5, 7, null}, {"1E-10000", "3", 5, 1, null},
            {"1E+10000", "3", 5, 1, "33333 -9995"}, {"10E-10000", "1E+1", 5, 7, null}, {"100E-10000", "1E+1", 1, 7, "1 9999"},
            {"100E-10000", "10", 2, 7, "10 10000"}, {"9E+10000", "1E-1", 1, 7, null}, {"9E+10000", "1E-1", 2, 7, null},
            {"1", "3", 1000, 1, House.ten(1000).divide(BigInteger.valueOf(3)) + " 1000"},
            {"2", "3", 1000, 0, House.ten(1000).multiply(BigInteger.TWO).divide(BigInteger.valueOf(3)).add(BigInteger.ONE)
                + " 1000"},
            {"1", "8", 0, 0, "125 3"}, {"1", "3", 0, 0, null}, {"6.00", "2", 0, 3, "300 2"}, {"600", "2.00", 0, 7, "3 -2"},
            {"6", "2.000", 0, 7, "3 0"}, {"60", "2E+1", 0, 7, "30 1"}, {"0.000", "7", 0, 7, "0 3"}, {"0E-10000", "1E+1", 0, 7, null},
            {"1", "1024", 0, 7, "9765625 10"}, {"1E+5", "1E+5", 0, 0, "1 0"}, {"7", "7E-3", 0, 0, "1 -3"},
            {"1E-10000", "4", 0, 0, null}, {"1E-9998", "4", 0, 0, "25 10000"}, {"-5", "16", 0, 5, "-3125 4"},
        };
        for (Object[] row : rows) {
            check(new BigDecimal((String) row[0]), new BigDecimal((String) row[1]), (int) row[2], (int) row[3],
                    (String) row[4]);
        }
        long1000();
        wrongCalls();
        House.end();
    }

    private static void long1000() {
        BigInteger nines = House.ten(1000).subtract(BigInteger.ONE);
        check(new BigDecimal(nines), new BigDecimal("1"), 999, 4, House.ten(998) + " -2");
        check(new BigDecimal(nines), new BigDecimal("1"), 0, 4, nines + " 0");
        check(new BigDecimal(nines), new BigDecimal("2"), 0, 4, null);
        check(new BigDecimal(House.ten(999)), new BigDecimal("1E+1"), 0, 4, House.ten(999) + " 1");
        check(new BigDecimal(House.ten(998)), new BigDecimal("1E+1"), 0, 4, House.ten(998) + " 1");
        BigInteger power = BigInteger.valueOf(5).pow(1430);
        check(BigDecimal.ONE, new BigDecimal(House.two(1430)), 0, 7, power + " 1430");
        check(BigDecimal.ONE, new BigDecimal(House.two(1430)), 1000, 7, power + " 1430");
        check(BigDecimal.ONE, new BigDecimal(House.two(1431)), 0, 7, null);
    }

    private static void check(BigDecimal a, BigDecimal b, int precision, int mode, String want) {
        House h = new House();
        h.setDecimal(0, a);
        h.setDecimal(1, b);
        String what = a + " by " + b + " to the precision " + precision + " by " + mode;
        if (want == null) {
            h.refuses(what, House.ARITHMETIC, () -> h.x.quotient(0, 1, 2, precision, mode));
            return;
        }
        h.x.quotient(0, 1, 2, precision, mode);
        BigDecimal got = h.getDecimal(2);
        House.due(what, got.unscaledValue() + " " + got.scale(), want);
        h.x.quotient(0, 1, 0, precision, mode);
        House.due(what + " in place", h.getDecimal(0), got);
        House.due("b stays", h.getDecimal(1), b);
    }

    private static void wrongCalls() {
        House h = new House();
        h.x.put(1, 1, 5);
        h.refuses("by 0", House.ARITHMETIC, () -> h.x.quotient(1, 0, 2, 5, 0));
        h.refuses("0 by 0 exactly", House.ARITHMETIC, () -> h.x.quotient(0, 0, 2, 0, 0));
        int[][] calls = {{-1, 1, 0, 5, 0}, {0, 10, 0, 5, 0}, {0, 1, 10, 5, 0}, {0, 1, 0, -1, 0}, {0, 1, 0, 1001, 0},
            {0, 1, 0, 5, -1}, {0, 1, 0, 5, 8}, {0, 0, 0, 1001, 0}, {0, 1, 0, 0, 8}};
        for (int[] call : calls) {
            h.refuses("quotient with a wrong number", House.ILLEGAL_ARGUMENT,
                    () -> h.x.quotient(call[0], call[1], call[2], call[3], call[4]));
        }
    }
}
