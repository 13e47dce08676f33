import java.math.BigDecimal;
import java.math.BigInteger;
import java.math.RoundingMode;

/** The edges of the eight modes, and of what is brought to a scale or to a precision. */
public final class EdgeRoundingTest {
    private static final String[] VALUES = {"0", "0.1", "0.4", "0.5", "0.6", "0.9", "1", "1.1", "1.4", "1.5", "1.6", "1.9", "2", "2.5", "3.5", "9.5"};

    public static void main(String[] args) {
        byMode("0 up: the next integer from 0 on outwards", 0, "0 1 1 1 1 1 1 2 2 2 2 2 2 3 4 10", "0 1 1 1 1 1 1 2 2 2 2 2 2 3 4 10");
        byMode("1 down: the next one towards 0", 1, "0 0 0 0 0 0 1 1 1 1 1 1 2 2 3 9", "0 0 0 0 0 0 1 1 1 1 1 1 2 2 3 9");
        byMode("2 ceiling: the next one that is not less", 2, "0 1 1 1 1 1 1 2 2 2 2 2 2 3 4 10", "0 0 0 0 0 0 1 1 1 1 1 1 2 2 3 9");
        byMode("3 floor: the next one that is not greater", 3, "0 0 0 0 0 0 1 1 1 1 1 1 2 2 3 9", "0 1 1 1 1 1 1 2 2 2 2 2 2 3 4 10");
        byMode("4 half up", 4, "0 0 0 1 1 1 1 1 1 2 2 2 2 3 4 10", "0 0 0 1 1 1 1 1 1 2 2 2 2 3 4 10");
        byMode("5 half down", 5, "0 0 0 0 1 1 1 1 1 1 2 2 2 2 3 9", "0 0 0 0 1 1 1 1 1 1 2 2 2 2 3 9");
        byMode("6 half even", 6, "0 0 0 0 1 1 1 1 1 2 2 2 2 2 4 10", "0 0 0 0 1 1 1 1 1 2 2 2 2 2 4 10");
        byMode("7 none: there must be no need, otherwise ArithmeticException.", 7, "0 - - - - - 1 - - - - - 2 - - -", "0 - - - - - 1 - - - - - 2 - - -");
        besideTheHalf();
        integers();
        modes();
        toScale();
        nearestToTheWish();
        zeroHasAnyScale();
        greatestPower();
        oneFigureMore();
        besideSquares();
        House.end();
    }

    /** Of the values, and of those with the sign turned: their sizes that are due, or - for none. */
    private static void byMode(String sentence, int mode, String above, String below) {
        House.sentence(sentence);
        String[] up = above.split(" ");
        String[] down = below.split(" ");
        for (int i = 0; i < VALUES.length; i++) {
            rounded(VALUES[i], mode, up[i]);
            rounded("-" + VALUES[i], mode, down[i].equals("-") || down[i].equals("0") ? down[i] : "-" + down[i]);
        }
    }

    private static void rounded(String value, int mode, String want) {
        BigDecimal x = new BigDecimal(value);
        call(value + " to the scale 0 by " + mode, x, BigDecimal.ONE, want, h -> h.shape(0, 1, 3, 0, mode));
        for (String b : new String[] {"1", "-1", "3", "-7", "0.04"}) {
            BigDecimal by = new BigDecimal(b);
            call(value + " from a quotient by " + b + " by " + mode, x.multiply(by), by, want, h -> h.divide(1, 2, 3, 0, mode));
        }
    }

    private static void call(String what, BigDecimal a, BigDecimal b, String want, Twins.Act act) {
        Twins.Setup setup = Twins.furnished(h -> {
            h.setDecimal(1, a);
            h.setDecimal(2, b);
        });
        if (want.equals("-")) {
            Twins.refuses(what, House.ARITHMETIC, setup, act);
            return;
        }
        House h = new House();
        setup.make(h);
        House.due(what + " throws", House.thrown(() -> act.call(h.x)), 0);
        House.due(what, h.printed(1, 3, 0), want);
    }

    private static void besideTheHalf() {
        House.sentence("the nearest one, of two that are as near the one farther from 0, nearer to 0, the even one");
        String zeros = new String(new char[990]).replace('\0', '0');
        String nines = zeros.replace('0', '9');
        String[] values = {"2.5" + zeros + "1", "2.4" + nines, "3.5" + zeros + "1", "3.4" + nines, "0.5" + zeros + "1", "0.4" + nines};
        int[] want = {3, 2, 4, 3, 1, 0};
        for (int mode = 4; mode <= 6; mode++) {
            int by = mode;
            for (int i = 0; i < values.length; i++) {
                String size = String.valueOf(want[i]);
                call(values[i], new BigDecimal(values[i]), BigDecimal.ONE, size, x -> x.shape(0, 1, 3, 0, by));
                call("-" + values[i], new BigDecimal("-" + values[i]), BigDecimal.ONE, want[i] == 0 ? size : "-" + size, x -> x.divide(1, 2, 3, 0, by));
            }
            call("2.5 and a third of the last place", new BigDecimal("75" + zeros + "1"), new BigDecimal("3E+992"), "3", x -> x.divide(1, 2, 3, 0, by));
            call("far below a half", new BigDecimal("1E-10000"), new BigDecimal("3"), "0", x -> x.divide(1, 2, 3, 0, by));
        }
    }

    private static void integers() {
        House.sentence("(An integer is itself by each mode.)");
        for (int mode = 0; mode <= 7; mode++) {
            int by = mode;
            for (String value : new String[] {"0", "1", "-1", "2", "-5", "10", "1000000000000000000000", "-999"}) {
                BigDecimal x = new BigDecimal(value);
                call(value, x, BigDecimal.ONE, value, h -> h.shape(0, 1, 3, 0, by));
                call(value, x.multiply(new BigDecimal("-3.000")), new BigDecimal("-3"), value, h -> h.divide(1, 2, 3, 0, by));
            }
        }
    }

    private static void modes() {
        House.sentence("IllegalArgumentException is thrown first for a kind, a register, a mode");
        Twins.range("the mode of divide", 4, 0, 7, (x, n) -> x.divide(n[0], n[1], n[2], n[3], n[4]), 3, 3, 5, 0, 0);
        Twins.range("the mode of quotient", 4, 0, 7, (x, n) -> x.quotient(n[0], n[1], n[2], n[3], n[4]), 3, 3, 5, 3, 0);
        Twins.range("the mode of shape 0", 4, 0, 7, (x, n) -> x.shape(n[0], n[1], n[2], n[3], n[4]), 0, 3, 5, 0, 0);
        Twins.range("the mode of shape 1", 4, 0, 7, (x, n) -> x.shape(n[0], n[1], n[2], n[3], n[4]), 1, 3, 5, 3, 0);
        Twins.refuses("the mode of shape 2", House.ILLEGAL_ARGUMENT, Twins.FURNISHED, x -> x.shape(2, 3, 5, 3, 8));
        Twins.refuses("the mode of shape 2", House.ILLEGAL_ARGUMENT, Twins.FURNISHED, x -> x.shape(2, 3, 5, 3, -1));
    }

    private static void shaped(int how, String a, int n, int mode, String want) {
        Twins.Setup setup = Twins.furnished(h -> h.setDecimal(1, new BigDecimal(a)));
        String what = "shape " + how + " of " + a + " to " + n + " by " + mode;
        if (want == null) {
            Twins.refuses(what, House.ARITHMETIC, setup, x -> x.shape(how, 1, 3, n, mode));
            return;
        }
        House h = new House();
        setup.make(h);
        h.x.shape(how, 1, 3, n, mode);
        House.due(what, h.getDecimal(3).unscaledValue() + " " + h.x.told(1, 3, 1), want);
    }

    private static void toScale() {
        House.sentence("x TO A SCALE s: the decimal with the scale s whose number is x times 10 to the s, rounded.");
        shaped(0, "12.345", 3, 7, "12345 3");
        shaped(0, "12.345", 4, 7, "123450 4");
        shaped(0, "12.345", 2, 7, null);
        shaped(0, "12.345", 2, 4, "1235 2");
        shaped(0, "12.345", 2, 6, "1234 2");
        shaped(0, "12.345", -1, 4, "1 -1");
        shaped(0, "12.345", -2, 4, "0 -2");
        shaped(0, "12.345", -2, 0, "1 -2");
        shaped(0, "-12.345", -2, 3, "-1 -2");
        shaped(0, "5", -1, 4, "1 -1");
        shaped(0, "5", -1, 5, "0 -1");
        shaped(0, "5", -1, 6, "0 -1");
        shaped(0, "4", -1, 4, "0 -1");
        shaped(0, "6", -1, 5, "1 -1");
        shaped(0, "5", -2, 4, "0 -2");
        shaped(0, "1E-10000", -10000, 0, "1 -10000");
        shaped(0, "-1E-10000", -10000, 2, "0 -10000");
        shaped(0, "9.99", 1, 4, "100 1");
    }

    private static void nearestToTheWish() {
        House.sentence("if there are decimals of the value x with a precision of at most p, the one of these whose scale is nearest to the wish");
        for (int mode = 0; mode <= 7; mode++) {
            shaped(1, "12.3400", 6, mode, "123400 4");
            shaped(1, "12.3400", 5, mode, "12340 3");
            shaped(1, "12.3400", 4, mode, "1234 2");
            shaped(1, "12.3400", 7, mode, "123400 4");
            shaped(1, "12.34", 1000, mode, "1234 2");
            shaped(1, "120E+5", 2, mode, "12 -6");
            shaped(1, "120E+5", 3, mode, "120 -5");
            shaped(1, "120E+5", 4, mode, "120 -5");
            shaped(2, "4.000000", 5, mode, "2000 3");
            shaped(2, "4.000000", 4, mode, "2000 3");
            shaped(2, "4.000000", 3, mode, "200 2");
            shaped(2, "4.000000", 1, mode, "2 0");
            shaped(2, "4E+10", 5, mode, "2 -5");
            shaped(2, "0.0625", 2, mode, "25 2");
            shaped(2, "6.25E+8", 3, mode, "25 -3");
            shaped(2, "62500E+4", 3, mode, "250 -2");
            shaped(2, "62500E+4", 2, mode, "25 -3");
        }
        shaped(1, "12.3401", 5, 7, null);
        shaped(1, "12.3400", 3, 7, null);
        shaped(2, "0.0625", 1, 7, null);
        shaped(2, "2", 1000, 7, null);
        wish("6", "0.002", 9, "3 -3");
        wish("6.000", "2", 9, "3000 3");
        wish("6.000", "2", 3, "300 2");
        wish("6.000", "2", 1, "3 0");
        wish("1", "8.00", 3, "125 3");
        wish("1.0000", "8", 3, "125 3");
        wish("1.0000", "8", 4, "1250 4");
        wish("1.00000", "8", 5, "12500 5");
        wish("1.00000", "8", 6, "12500 5");
    }

    private static void wish(String a, String b, int precision, String want) {
        BigDecimal value = new BigDecimal(a).divide(new BigDecimal(b));
        for (int mode = 0; mode <= 7; mode++) {
            House h = new House();
            h.setDecimal(1, new BigDecimal(a));
            h.setDecimal(2, new BigDecimal(b));
            h.x.quotient(1, 2, 3, precision, mode);
            BigDecimal got = h.getDecimal(3);
            House.due("the value of " + a + " by " + b, got.compareTo(value), 0);
            House.due("its number and scale", got.unscaledValue() + " " + got.scale(), want);
        }
    }

    private static void zeroHasAnyScale() {
        House.sentence("(0 with any scale has the precision 1)");
        for (int precision : new int[] {1, 2, 1000}) {
            shaped(1, "0.000", precision, 7, "0 3");
            shaped(1, "0E+7", precision, 7, "0 -7");
            shaped(1, "0E-10000", precision, 7, "0 10000");
            shaped(1, "0E+10000", precision, 7, "0 -10000");
            shaped(2, "0.000", precision, 7, "0 1");
            shaped(2, "0E+3", precision, 7, "0 -2");
        }
    }

    private static void greatestPower() {
        House.sentence("Otherwise with the greatest t for which x times 10 to the t is below 10 to the p in size: x to the scale t, if that has the precision p");
        shaped(1, "12345", 4, 1, "1234 -1");
        shaped(1, "99999", 4, 1, "9999 -1");
        shaped(1, "10001", 4, 1, "1000 -1");
        shaped(1, "10001", 4, 0, "1001 -1");
        shaped(1, "-10001", 4, 2, "-1000 -1");
        shaped(1, "-10001", 4, 3, "-1001 -1");
        shaped(1, "0.00012345", 2, 4, "12 5");
        shaped(1, "0.000125", 2, 4, "13 5");
        shaped(1, "0.000125", 2, 5, "12 5");
        shaped(1, "0.000125", 2, 6, "12 5");
        shaped(1, "0.000135", 2, 6, "14 5");
        shaped(2, "3", 3, 1, "173 2");
        shaped(2, "3", 3, 0, "174 2");
        shaped(2, "30", 3, 1, "547 2");
        shaped(2, "0.3", 3, 1, "547 3");
        shaped(2, "0.03", 3, 1, "173 3");
        shaped(2, "0.03", 3, 7, null);
        for (int mode = 0; mode < 7; mode++) {
            BigDecimal third = BigDecimal.ONE.divide(new BigDecimal(3), new java.math.MathContext(50, RoundingMode.values()[mode]));
            House h = new House();
            h.x.put(1, 1, 1);
            h.x.put(1, 2, 3);
            h.x.quotient(1, 2, 3, 50, mode);
            House.due("a third by " + mode, h.getDecimal(3), third);
        }
    }

    private static void oneFigureMore() {
        House.sentence("if it has p + 1, its number being a power of ten, that divided by 10 with the scale t - 1");
        shaped(1, "999.4", 3, 4, "999 0");
        shaped(1, "999.5", 3, 4, "100 -1");
        shaped(1, "999.5", 3, 5, "999 0");
        shaped(1, "999.5", 3, 6, "100 -1");
        shaped(1, "-999.1", 3, 3, "-100 -1");
        shaped(1, "-999.1", 3, 2, "-999 0");
        shaped(1, "9.5", 1, 4, "1 -1");
        shaped(1, "9.4", 1, 4, "9 0");
        shaped(1, "0.00995", 2, 4, "10 3");
        shaped(1, "0.00994", 2, 4, "99 4");
        shaped(2, "99.9", 1, 0, "1 -1");
        shaped(2, "99.9", 2, 4, "10 0");
        shaped(2, "99.9", 3, 4, "999 2");
        shaped(2, "99.91", 3, 4, "100 1");
        shaped(2, "99.91", 4, 4, "9995 3");
        BigInteger nines = House.ten(1000).subtract(BigInteger.ONE);
        shaped(1, nines + "E-3", 999, 4, House.ten(998) + " 1");
    }

    /** What stands far behind decides, though the first figures are those of a square. */
    private static void besideSquares() {
        House.sentence("the square root of a, to the precision n");
        String zeros = new String(new char[997]).replace('\0', '0');
        String above = "4." + zeros + "1";
        String below = "3.9" + zeros.replace('0', '9');
        String[][] want = {
            // by mode: above and below a square, to one figure and to three
            {"3 0", "2 0", "201 2", "200 2"}, {"2 0", "1 0", "200 2", "199 2"}, {"3 0", "2 0", "201 2", "200 2"}, {"2 0", "1 0", "200 2", "199 2"},
            {"2 0", "2 0", "200 2", "200 2"}, {"2 0", "2 0", "200 2", "200 2"}, {"2 0", "2 0", "200 2", "200 2"}, {null, null, null, null},
        };
        for (int mode = 0; mode <= 7; mode++) {
            shaped(2, above, 1, mode, want[mode][0]);
            shaped(2, below, 1, mode, want[mode][1]);
            shaped(2, above, 3, mode, want[mode][2]);
            shaped(2, below, 3, mode, want[mode][3]);
            shaped(2, "4." + zeros + "0", 1, mode, "2 0");
            shaped(2, "4E+9998", 1, mode, "2 -4999");
            shaped(2, "4E-9998", 1, mode, "2 4999");
        }
        shaped(2, "6.25" + zeros.substring(3) + "1", 1, 5, "3 0");
        shaped(2, "6.25" + zeros.substring(3) + "1", 1, 6, "3 0");
        shaped(2, "6.24" + zeros.substring(3).replace('0', '9') + "9", 1, 4, "2 0");
        shaped(2, "6.25", 1, 4, "3 0");
        shaped(2, "6.25", 1, 5, "2 0");
        shaped(2, "6.25", 1, 6, "2 0");
        shaped(2, "12.25", 1, 6, "4 0");
    }
}
