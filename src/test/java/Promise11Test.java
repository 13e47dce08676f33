import java.math.BigDecimal;
import java.math.BigInteger;

/** Promise 11: decimal. */
public final class Promise11Test {
    private static final BigInteger NINES = House.ten(1000).subtract(BigInteger.ONE);

    public static void main(String[] args) {
        Object[][] rows = {
            // how, a, b, number and scale of the answer, or nothing
            {0, "1.5", "2.25", "375 2"}, {0, "1.5", "-1.50", "0 2"}, {0, "1E+3", "1", "1001 0"}, {0, "0E+3", "0E-3", "0 3"},
            {0, "0E+9999", "5E-1", "5 1"}, {0, "0E-9999", "1", null}, {0, "1E+999", "1", "1" + zeros(998) + "1 0"},
            {0, "1E+1000", "1", null}, {0, "1E+1000", "-1", NINES + " 0"}, {0, "1E+1001", "-1", null},
            {0, "-1", "1E+1000", NINES + " 0"}, {0, "1E-10000", "0E+10000", "1 10000"}, {0, "1E+10000", "1E-10000", null},
            {0, "1E-10000", "1E+10000", null}, {0, "-1", "1E+1001", null}, {0, "1", "-1E+1002", null},
            {0, "0E-500", "1E+499", "1" + zeros(999) + " 500"}, {0, "0E-500", "1E+500", null},
            {1, "1.5", "2.25", "-75 2"}, {1, "1.50", "1.5", "0 2"}, {1, "0", "0.5", "-5 1"}, {1, "1E+1000", "1", NINES + " 0"},
            {1, "-1E+1000", "-1", "-" + NINES + " 0"}, {1, "-1", "1E+1000", null},
            {2, "1.5", "-2.25", "-3375 3"}, {2, "0E-5", "7E+2", "0 3"}, {2, "1E-10000", "1E-1", null},
            {2, "1E-9999", "1E-1", "1 10000"}, {2, "1E+9999", "1E+2", null}, {2, "1E+500", "1E-500", "1 0"},
            {2, "0E+6000", "0E+6000", null},
            {3, "7", "2", "1 0"}, {3, "-7", "2", "-1 0"}, {3, "7", "-2", "1 0"}, {3, "7.5", "2", "15 1"},
            {3, "1", "0.3", "1 1"}, {3, "-1", "0.30", "-10 2"}, {3, "0", "5.00", "0 2"}, {3, "6", "1.5", "0 1"},
            {3, "0.25", "1E+9999", "25 2"}, {3, "1E+10000", "7E-10000", "2 10000"}, {3, "-2E+10000", "7E-10000", "-4 10000"},
            {3, "1E+10000", "1E-10000", "0 10000"}, {3, "1E+9", "1E+10", "1 -9"}, {3, "5E+10", "3E+9", "2 -9"},
        };
        for (Object[] row : rows) {
            check((int) row[0], new BigDecimal((String) row[1]), new BigDecimal((String) row[2]), (String) row[3]);
        }
        check(0, new BigDecimal(NINES), BigDecimal.ONE, null);
        check(1, new BigDecimal(NINES), new BigDecimal(NINES), "0 0");
        check(2, new BigDecimal(NINES), BigDecimal.ONE, NINES + " 0");
        check(2, new BigDecimal(NINES), BigDecimal.TEN, null);
        check(2, new BigDecimal(NINES), new BigDecimal(NINES), null);
        check(3, new BigDecimal(NINES), new BigDecimal(NINES.negate()), "0 0");
        check(3, new BigDecimal(NINES, -9000), new BigDecimal(NINES.subtract(BigInteger.ONE), 10000),
                NINES.multiply(House.ten(19000)).mod(NINES.subtract(BigInteger.ONE)) + " 10000");
        wrongCalls();
        House.end();
    }

    private static String zeros(int n) {
        return new String(new char[n]).replace('\0', '0');
    }

    private static void check(int how, BigDecimal a, BigDecimal b, String want) {
        House h = new House();
        h.setDecimal(0, a);
        h.setDecimal(1, b);
        String what = "decimal " + how + " of " + a + " and " + b;
        if (want == null) {
            h.refuses(what, House.ARITHMETIC, () -> h.x.decimal(how, 0, 1, 2));
            return;
        }
        h.x.decimal(how, 0, 1, 2);
        BigDecimal got = h.getDecimal(2);
        House.due(what, got.unscaledValue() + " " + got.scale(), want);
        h.x.decimal(how, 0, 1, 1);
        House.due(what + " in place", h.x.compare(1, 1, 2) + " " + h.x.told(1, 1, 1), "0 " + got.scale());
        House.due("a stays", h.getDecimal(0), a);
    }

    private static void wrongCalls() {
        House h = new House();
        h.x.put(1, 1, 5);
        h.refuses("rest by 0", House.ARITHMETIC, () -> h.x.decimal(3, 1, 0, 2));
        int[][] calls = {{-1, 0, 0, 0}, {4, 0, 0, 0}, {0, 10, 0, 0}, {1, 0, -1, 0}, {2, 0, 0, 10}, {3, 0, 0, -1}};
        for (int[] call : calls) {
            h.refuses("decimal " + call[0] + " " + call[1] + " " + call[2] + " " + call[3], House.ILLEGAL_ARGUMENT,
                    () -> h.x.decimal(call[0], call[1], call[2], call[3]));
        }
    }
}
