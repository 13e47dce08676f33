import java.math.BigDecimal;
import java.math.BigInteger;

/** Promise 18: figures. */
public final class Promise18Test {
    public static void main(String[] args) {
        ways();
        Object[][] rows = {
            // value, scientific, n, way, text
            {0.0, false, 0, 0, "0"}, {-0.0, false, 3, 1, "-0.000"}, {0.0, true, 1, 1, "0e+00"}, {-0.0, true, 4, 2, "-0.000e+00"},
            {1234.5, false, 0, 2, "1235"}, {1234.5, false, 0, 3, "1234"}, {1235.5, false, 0, 3, "1236"}, {1234.5, false, 2, 0, "1234.50"},
            {0.5, false, 0, 3, "0"}, {0.5, false, 0, 2, "1"}, {1.5, false, 0, 3, "2"}, {-0.5, false, 0, 3, "-0"}, {-0.4, false, 0, 2, "-0"},
            {0.04, false, 0, 1, "1"}, {0.04, false, 0, 2, "0"}, {0.04, false, 1, 1, "0.1"}, {0.04, false, 1, 0, "0.0"},
            {0.0625, false, 3, 3, "0.062"}, {0.1875, false, 3, 3, "0.188"}, {9.96, false, 1, 2, "10.0"}, {99.5, false, 0, 2, "100"},
            {-99.5, false, 0, 3, "-100"}, {98.5, false, 0, 3, "98"}, {1e22, false, 1, 0, "10000000000000000000000.0"},
            {1234.5, true, 1, 2, "1e+03"}, {1234.5, true, 4, 2, "1.235e+03"}, {1234.5, true, 4, 3, "1.234e+03"},
            {1234.5, true, 8, 3, "1.2345000e+03"}, {9.96, true, 2, 2, "1.0e+01"}, {-0.000999, true, 2, 1, "-1.0e-03"},
            {9.5, true, 1, 3, "1e+01"}, {8.5, true, 1, 3, "8e+00"}, {1e100, true, 3, 2, "1.00e+100"}, {1e-100, true, 3, 2, "1.00e-100"},
            {0.1, true, 20, 2, "1.0000000000000000555e-01"}, {0.1, false, 20, 0, "0.10000000000000000555"},
            {4.9e-324, true, 3, 0, "4.94e-324"}, {4.9e-324, false, 5, 1, "0.00001"}, {4.9e-324, false, 5, 3, "0.00000"},
            {2500.0, true, 1, 3, "2e+03"}, {2510.0, true, 1, 3, "3e+03"}, {2501.0, true, 1, 3, "3e+03"}, {3500.0, true, 1, 3, "4e+03"},
            {2000.0, true, 1, 1, "2e+03"}, {2001.0, true, 1, 1, "3e+03"}, {2001.0, true, 1, 0, "2e+03"},
            {0.005, false, 0, 2, "0"}, {0.009, false, 1, 2, "0.0"}, {0.06, false, 1, 2, "0.1"}, {0.96, false, 1, 2, "1.0"},
        };
        for (Object[] row : rows) {
            House h = new House();
            h.x.put(2, 1, Double.doubleToRawLongBits((double) row[0]));
            int n = h.x.figures(2, 1, (boolean) row[1], (int) row[2], (int) row[3]);
            House.due("figures of " + row[0] + " " + row[1] + " " + row[2] + " " + row[3], h.paper(n), row[4]);
        }
        farOnes();
        wrongCalls();
        House.end();
    }

    private static void ways() {
        double[] values = {2.5, -2.5, 3.5, 2.25, 2.75, 3.0};
        String[][] want = {
            {"2", "-2", "3", "2", "2", "3"}, {"3", "-3", "4", "3", "3", "3"}, {"3", "-3", "4", "2", "3", "3"},
            {"2", "-2", "4", "2", "3", "3"},
        };
        House h = new House();
        for (int i = 0; i < values.length; i++) {
            h.x.put(2, 1, Double.doubleToRawLongBits(values[i]));
            h.x.put(3, 1, Float.floatToRawIntBits((float) values[i]) & 0xffffffffL);
            for (int way = 0; way < 4; way++) {
                House.due("wide fixed by " + way, h.paper(h.x.figures(2, 1, false, 0, way)), want[way][i]);
                House.due("narrow fixed by " + way, h.paper(h.x.figures(3, 1, false, 0, way)), want[way][i]);
                House.due("wide scientific by " + way, h.paper(h.x.figures(2, 1, true, 1, way)), want[way][i] + "e+00");
                House.due("narrow scientific by " + way, h.paper(h.x.figures(3, 1, true, 1, way)), want[way][i] + "e+00");
            }
        }
    }

    private static void farOnes() {
        House h = new House();
        h.x.put(2, 1, Double.doubleToRawLongBits(-Double.MAX_VALUE));
        String great = new BigDecimal(-Double.MAX_VALUE).setScale(1100).toPlainString();
        House.due("the longest", h.paper(h.x.figures(2, 1, false, 1100, 0)), great);
        h.x.put(2, 1, 1);
        String small = new BigDecimal(Double.MIN_VALUE).setScale(1100).toPlainString();
        House.due("the least", h.paper(h.x.figures(2, 1, false, 1100, 3)), small);
        String five = BigInteger.valueOf(5).pow(1074).toString();
        String zeros = new String(new char[800 - five.length()]).replace('\0', '0');
        House.due("800 figures", h.paper(h.x.figures(2, 1, true, 800, 1)), five.charAt(0) + "." + five.substring(1) + zeros + "e-324");
        h.x.put(2, 1, 0x000fffffffffffffL);
        String all = new BigDecimal(Double.longBitsToDouble(0x000fffffffffffffL)).unscaledValue().toString();
        House.due("the most figures", all.length(), 767);
        zeros = new String(new char[800 - 767]).replace('\0', '0');
        House.due("767 figures", h.paper(h.x.figures(2, 1, true, 800, 1)), all.charAt(0) + "." + all.substring(1) + zeros + "e-308");
    }

    private static void wrongCalls() {
        House h = new House();
        long[] notFinite = {0x7ff0000000000000L, 0xfff0000000000000L, 0x7ff8000000000000L};
        for (long bits : notFinite) {
            h.x.put(2, 1, bits);
            h.refuses("fixed of what is not finite", House.ARITHMETIC, () -> h.x.figures(2, 1, false, 3, 0));
            h.refuses("scientific of what is not finite", House.ARITHMETIC, () -> h.x.figures(2, 1, true, 3, 0));
            h.refuses("n counts first", House.ILLEGAL_ARGUMENT, () -> h.x.figures(2, 1, true, 0, 0));
        }
        h.x.put(3, 1, 0x7f800000L);
        h.refuses("narrow infinity", House.ARITHMETIC, () -> h.x.figures(3, 1, false, 3, 0));
        int[][] calls = {{0, 0, 1, 0}, {1, 0, 1, 0}, {4, 0, 1, 0}, {-1, 0, 1, 0}, {2, 10, 1, 0}, {3, -1, 1, 0}, {2, 0, -1, 0},
            {2, 0, 1101, 0}, {2, 0, 1, -1}, {3, 0, 1, 4}};
        for (int[] call : calls) {
            h.refuses("figures of a wrong number", House.ILLEGAL_ARGUMENT,
                    () -> h.x.figures(call[0], call[1], false, call[2], call[3]));
            h.refuses("scientific figures of a wrong number", House.ILLEGAL_ARGUMENT,
                    () -> h.x.figures(call[0], call[1], true, call[2], call[3]));
        }
        h.refuses("no figures", House.ILLEGAL_ARGUMENT, () -> h.x.figures(2, 0, true, 0, 0));
        h.refuses("801 figures", House.ILLEGAL_ARGUMENT, () -> h.x.figures(2, 0, true, 801, 0));
        House.due("801 places", h.x.figures(2, 0, false, 801, 0), 803);
        House.due("no places", h.x.figures(2, 0, false, 0, 0), 1);
    }
}
