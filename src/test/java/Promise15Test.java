import java.math.BigDecimal;
import java.math.BigInteger;

/** Promise 15: shape. */
public final class Promise15Test {
    public static void main(String[] args) {
        Object[][] rows = {
            // how, a, n, mode, number and scale of the answer, or nothing
            {0, "1.25", 1, 6, "12 1"}, {0, "1.35", 1, 6, "14 1"}, {0, "1.25", 4, 7, "12500 4"}, {0, "1.25", 1, 7, null},
            {0, "-1.25", 0, 0, "-2 0"}, {0, "1250", -2, 4, "13 -2"}, {0, "0E+5", 10000, 7, "0 10000"}, {0, "1", 1000, 7, null},
            {0, "1", 999, 7, House.ten(999) + " 999"}, {0, "1", -10000, 1, "0 -10000"}, {0, "1", -10000, 0, "1 -10000"},
            {0, "1E+10000", -10000, 7, "1 -10000"}, {0, "1E+10000", -9001, 7, House.ten(999) + " -9001"},
            {0, "1E+10000", 10000, 1, null}, {0, "1E-10000", 9999, 4, "0 9999"}, {0, "9.5", 0, 4, "10 0"},
            {0, "-9.5", 0, 5, "-9 0"},
            {1, "123.45", 3, 4, "123 0"}, {1, "123.45", 4, 5, "1234 1"}, {1, "123.45", 4, 6, "1234 1"}, {1, "123.45", 4, 4, "1235 1"},
            {1, "123.45", 9, 7, "12345 2"}, {1, "123.00", 3, 7, "123 0"}, {1, "123.00", 4, 7, "1230 1"}, {1, "1200", 2, 7, "12 -2"},
            {1, "1200", 3, 7, "120 -1"}, {1, "1230", 2, 7, null}, {1, "999", 2, 4, "10 -2"}, {1, "-999", 2, 3, "-10 -2"},
            {1, "-999", 2, 1, "-99 -1"}, {1, "0.000", 1, 7, "0 3"}, {1, "99E+10000", 1, 0, null}, {1, "12E+9999", 1, 0, "2 -10000"},
            {1, "12E+10000", 1, 0, null}, {1, "5", 1000, 0, "5 0"},
            {2, "2", 10, 6, "1414213562 9"}, {2, "2", 10, 0, "1414213563 9"}, {2, "2", 10, 7, null}, {2, "4", 10, 7, "2 0"},
            {2, "4.00", 10, 7, "20 1"}, {2, "4.000", 10, 7, "20 1"}, {2, "4.0000", 10, 7, "200 2"}, {2, "400", 10, 7, "20 0"},
            {2, "400", 1, 7, "2 -1"}, {2, "4E+2", 10, 7, "2 -1"}, {2, "4E+1", 3, 1, "632 2"}, {2, "0.09", 5, 7, "3 1"},
            {2, "0.9", 3, 4, "949 3"}, {2, "0E-5", 3, 7, "0 2"}, {2, "0E+5", 3, 7, "0 -3"}, {2, "0E+6", 3, 7, "0 -3"},
            {2, "1E-10000", 5, 7, "1 5000"}, {2, "1E-9999", 5, 1, "31622 5004"}, {2, "1E+9999", 5, 2, "31623 -4995"},
            {2, "99.999", 2, 4, "10 0"}, {2, "99.999", 2, 1, "99 1"}, {2, "152.2756", 4, 7, "1234 2"}, {2, "152.2756", 3, 5, "123 1"},
            {2, "152.5225", 3, 6, "124 1"}, {2, "150.0625", 3, 6, "122 1"}, {2, "150.0625", 3, 5, "122 1"}, {2, "150.0625", 3, 4, "123 1"},
            {2, "12345678987654321", 1, 1, "1 -8"},
        };
        for (Object[] row : rows) {
            check((int) row[0], new BigDecimal((String) row[1]), (int) row[2], (int) row[3], (String) row[4]);
        }
        long1000();
        wrongCalls();
        House.end();
    }

    private static void long1000() {
        BigInteger two = BigInteger.TWO.multiply(House.ten(1998)).sqrt();
        check(2, new BigDecimal("2"), 1000, 1, two + " 999");
        BigInteger nines = House.ten(1000).subtract(BigInteger.ONE);
        check(1, new BigDecimal(nines), 999, 2, House.ten(998) + " -2");
        check(1, new BigDecimal(nines), 1000, 7, nines + " 0");
        check(2, new BigDecimal(nines), 1000, 1, nines.multiply(House.ten(1000)).sqrt() + " 500");
        check(2, new BigDecimal(nines, 1), 1000, 0,
                nines.multiply(House.ten(999)).sqrt().add(BigInteger.ONE) + " 500");
        BigInteger root = House.ten(500).subtract(BigInteger.ONE);
        check(2, new BigDecimal(root.multiply(root)), 500, 7, root + " 0");
        check(2, new BigDecimal(root.multiply(root), 4), 1000, 7, root.multiply(House.ten(0)) + " 2");
        check(2, new BigDecimal(root.multiply(root).add(BigInteger.ONE)), 500, 0, House.ten(499) + " -1");
        check(0, new BigDecimal(nines, 5), 4, 0, House.ten(999) + " 4");
        check(0, new BigDecimal(nines, 5), 6, 7, null);
    }

    private static void check(int how, BigDecimal a, int n, int mode, String want) {
        House h = new House();
        h.setDecimal(0, a);
        String what = "shape " + how + " of " + a + " to " + n + " by " + mode;
        if (want == null) {
            h.refuses(what, House.ARITHMETIC, () -> h.x.shape(how, 0, 2, n, mode));
            return;
        }
        h.x.shape(how, 0, 2, n, mode);
        BigDecimal got = h.getDecimal(2);
        House.due(what, got.unscaledValue() + " " + got.scale(), want);
        House.due("a stays", h.getDecimal(0), a);
        h.x.shape(how, 0, 0, n, mode);
        House.due(what + " in place", h.getDecimal(0), got);
    }

    private static void wrongCalls() {
        House h = new House();
        h.x.put(1, 1, -4);
        h.refuses("root below 0", House.ARITHMETIC, () -> h.x.shape(2, 1, 2, 5, 0));
        int[][] calls = {{-1, 0, 0, 5, 0}, {3, 0, 0, 5, 0}, {0, 10, 0, 5, 0}, {0, 0, -1, 5, 0}, {0, 0, 0, 10001, 0},
            {0, 0, 0, -10001, 0}, {1, 0, 0, 0, 0}, {1, 0, 0, 1001, 0}, {2, 0, 0, 0, 0}, {2, 0, 0, 1001, 0}, {2, 1, 0, 1001, 0},
            {0, 0, 0, 5, -1}, {1, 0, 0, 5, 8}, {2, 1, 0, 5, 8}};
        for (int[] call : calls) {
            h.refuses("shape with a wrong number", House.ILLEGAL_ARGUMENT,
                    () -> h.x.shape(call[0], call[1], call[2], call[3], call[4]));
        }
    }
}
