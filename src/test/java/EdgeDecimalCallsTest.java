import java.math.BigDecimal;
import java.math.BigInteger;

/** The sentences of the promises 11 to 15 that name an edge: decimal, decimalBy, divide, quotient and shape. */
public final class EdgeDecimalCallsTest {
    public static void main(String[] args) {
        hows();
        greaterScale();
        sumOfScales();
        rests();
        restByNought();
        powers();
        powersOutside();
        lessScale();
        leastScale();
        divideScales();
        divideByNought();
        exactly();
        exactlyNot();
        quotientPrecisions();
        quotientByNought();
        shapeScales();
        shapePrecisions();
        rootWish();
        rootsBelow();
        inPlace();
        House.end();
    }

    private static Twins.Setup with(String a, String b) {
        return Twins.furnished(h -> {
            h.setDecimal(1, new BigDecimal(a));
            h.setDecimal(2, new BigDecimal(b));
        });
    }

    private static void due(String what, String a, String b, String want, Twins.Act act) {
        String all = what + " of " + a + " and " + b;
        if (want == null) {
            Twins.refuses(all, House.ARITHMETIC, with(a, b), act);
            return;
        }
        House h = new House();
        with(a, b).make(h);
        House.due(all + " throws", House.thrown(() -> act.call(h.x)), 0);
        House.due(all, h.getDecimal(3).unscaledValue() + " " + h.x.told(1, 3, 1), want);
        House.due("a and b stay", h.getDecimal(1) + " " + h.getDecimal(2), new BigDecimal(a) + " " + new BigDecimal(b));
    }

    private static void decimal(int how, String a, String b, String want) {
        due("decimal " + how, a, b, want, x -> x.decimal(how, 1, 2, 3));
    }

    private static void by(int how, String a, int n, String want) {
        due("decimalBy " + how + " with " + n, a, "1", want, x -> x.decimalBy(how, 1, n, 3));
    }

    private static void exact(String a, String b, String want) {
        for (int mode = 0; mode <= 7; mode++) {
            int by = mode;
            due("quotient exactly by " + mode, a, b, want, x -> x.quotient(1, 2, 3, 0, by));
        }
    }

    private static void shape(int how, String a, int n, int mode, String want) {
        due("shape " + how + " to " + n + " by " + mode, a, "1", want, x -> x.shape(how, 1, 3, n, mode));
    }

    private static void hows() {
        House.sentence("or a number of what to do or tell (how, what, style) that there is not");
        Twins.range("decimal", 0, 0, 3, (x, n) -> x.decimal(n[0], n[1], n[2], n[3]), 0, 3, 4, 5);
        Twins.range("decimalBy", 0, 0, 2, (x, n) -> x.decimalBy(n[0], n[1], n[2], n[3]), 0, 3, 2, 5);
        Twins.range("shape", 0, 0, 2, (x, n) -> x.shape(n[0], n[1], n[2], n[3], n[4]), 0, 3, 4, 5, 0);
    }

    private static void greaterScale() {
        House.sentence("Decimals: a and b (how = 0), a less b (1), both exactly, with the greater one of their scales");
        decimal(0, "1.5", "0.500", "2000 3");
        decimal(0, "0.500", "1.5", "2000 3");
        decimal(1, "1.5", "1.500", "0 3");
        decimal(1, "1.500", "1.5", "0 3");
        decimal(0, "0E+5", "0E+7", "0 -5");
        decimal(0, "0E-10000", "0E+10000", "0 10000");
        decimal(0, "7E+2", "3E+4", "307 -2");
        decimal(1, "7E+2", "3E+4", "-293 -2");
        decimal(0, "0.0", "7", "70 1");
        decimal(1, "0.0", "7", "-70 1");
    }

    private static void sumOfScales() {
        House.sentence("a times b, exactly, with the sum of their scales (2)");
        decimal(2, "1.5", "0.50", "750 3");
        decimal(2, "-1.5", "2E+3", "-30 -2");
        decimal(2, "0.00", "-7.0", "0 3");
        decimal(2, "1E-10000", "1E+10000", "1 0");
        decimal(2, "1E-9999", "0.1", "1 10000");
        decimal(2, "1E-9999", "0.01", null);
        decimal(2, "1E+9999", "1E+1", "1 -10000");
        decimal(2, "1E+9999", "1E+2", null);
    }

    private static void rests() {
        House.sentence("a less b times what a divided by b is, rounded down, with the greater one of their scales (3)");
        String[][] rows = {
            {"6", "7", "6 0"}, {"7", "7", "0 0"}, {"8", "7", "1 0"}, {"-6", "7", "-6 0"}, {"-7", "7", "0 0"}, {"-8", "7", "-1 0"}, {"8", "-7", "1 0"}, {"-8", "-7", "-1 0"},
            {"0", "7.00", "0 2"}, {"7.00", "7", "0 2"}, {"7.01", "7", "1 2"}, {"6.99", "7", "699 2"}, {"1", "0.3", "1 1"}, {"1", "0.300", "100 3"},
            {"1E+10000", "7E-10000", "2 10000"}, {"1E-10000", "1E+10000", "1 10000"}, {"5E+10", "3E+9", "2 -9"}, {"1E+10000", "1E+10000", "0 -10000"},
        };
        for (String[] row : rows) {
            decimal(3, row[0], row[1], row[2]);
        }
    }

    private static void restByNought() {
        House.sentence("ArithmeticException, too: b is 0 (3).");
        for (String zero : new String[] {"0", "0.000", "0E+10000", "0E-10000"}) {
            decimal(3, "7", zero, null);
            decimal(3, "0", zero, null);
        }
        decimal(3, "7", "1E-10000", "0 10000");
        decimal(0, "7", "0", "7 0");
        decimal(1, "7", "0", "7 0");
        decimal(2, "7", "0", "0 0");
    }

    private static void powers() {
        House.sentence("Decimals: a to the power n, exactly, with n times its scale (how = 0)");
        by(0, "7.25", 0, "1 0");
        by(0, "0.00", 0, "1 0");
        by(0, "0E-10000", 0, "1 0");
        by(0, "7.25", 1, "725 2");
        by(0, "-1.5", 2, "225 2");
        by(0, "-1.5", 3, "-3375 3");
        by(0, "0.00", 3, "0 6");
        by(0, "1", 999, "1 0");
        by(0, "-1", 999, "-1 0");
        by(0, "-1", 998, "1 0");
        by(0, "10", 999, House.ten(999) + " 0");
        by(0, "-0.1", 999, "-1 999");
        by(0, "1E+10", 999, "1 -9990");
    }

    private static void powersOutside() {
        House.sentence("IllegalArgumentException, too: n is not 0 .. 999 (0).");
        for (int n : new int[] {-1, 1000, 1001, Integer.MIN_VALUE, Integer.MAX_VALUE}) {
            Twins.refuses("the power " + n, House.ILLEGAL_ARGUMENT, with("1", "1"), x -> x.decimalBy(0, 1, n, 3));
            Twins.refuses("the power " + n, House.ILLEGAL_ARGUMENT, with("0", "1"), x -> x.decimalBy(0, 1, n, 3));
            Twins.refuses("the power " + n, House.ILLEGAL_ARGUMENT, with("9E+9999", "1"), x -> x.decimalBy(0, 1, n, 3));
            Twins.takes("any n for 2", with("1", "1"), x -> x.decimalBy(2, 1, n, 3));
        }
        by(0, "1", 0, "1 0");
        by(0, "1", 999, "1 0");
        by(1, "1", -1, "1 1");
        by(1, "1", 1000, "1 -1000");
    }

    private static void lessScale() {
        House.sentence("a with n less for its scale (1)");
        by(1, "1.5", 0, "15 1");
        by(1, "1.5", 1, "15 0");
        by(1, "1.5", 2, "15 -1");
        by(1, "1.5", -1, "15 2");
        by(1, "0.0", 5, "0 -4");
        by(1, "1.5", 10001, "15 -10000");
        by(1, "1.5", 10002, null);
        by(1, "1.5", -9999, "15 10000");
        by(1, "1.5", -10000, null);
        by(1, "1E-10000", 20000, "1 -10000");
        by(1, "1E-10000", 20001, null);
        by(1, "1E+10000", -20000, "1 10000");
        by(1, "1E+10000", Integer.MIN_VALUE, null);
        by(1, "1E-10000", Integer.MIN_VALUE, null);
        by(1, "1E-10000", Integer.MAX_VALUE, null);
    }

    private static void leastScale() {
        House.sentence("a with the least scale that its value can have, 0 with the scale 0 (2, any n)");
        for (int n : new int[] {0, -1, 1000, Integer.MIN_VALUE, Integer.MAX_VALUE}) {
            by(2, "0", n, "0 0");
            by(2, "0E-10000", n, "0 0");
            by(2, "0E+10000", n, "0 0");
            by(2, "1.500", n, "15 1");
            by(2, "-1500", n, "-15 -2");
            by(2, "15", n, "15 0");
            by(2, "1" + new String(new char[999]).replace('\0', '0'), n, "1 -999");
        }
        by(2, "10E+9999", 0, "1 -10000");
        by(2, "100E+9999", 0, null);
        by(2, "100E+9998", 0, "1 -10000");
        by(2, "10E-10000", 0, "1 9999");
    }

    private static void divideScales() {
        House.sentence("IllegalArgumentException, too: scale is not -10000 .. 10000.");
        Twins.refuses("the scale 10001", House.ILLEGAL_ARGUMENT, with("1", "1"), x -> x.divide(1, 2, 3, 10001, 0));
        Twins.refuses("the scale -10001", House.ILLEGAL_ARGUMENT, with("1", "1"), x -> x.divide(1, 2, 3, -10001, 0));
        Twins.refuses("the scale 10001 of 0", House.ILLEGAL_ARGUMENT, with("0", "1"), x -> x.divide(1, 2, 3, 10001, 0));
        Twins.refuses("the scale 10001, by 0", House.ILLEGAL_ARGUMENT, with("1", "0"), x -> x.divide(1, 2, 3, 10001, 0));
        Twins.refuses("a far scale", House.ILLEGAL_ARGUMENT, with("1", "1"), x -> x.divide(1, 2, 3, Integer.MIN_VALUE, 0));
        Twins.refuses("a far scale", House.ILLEGAL_ARGUMENT, with("1", "1"), x -> x.divide(1, 2, 3, Integer.MAX_VALUE, 0));
        due("divide to 10000", "1E-9500", "1", House.ten(500) + " 10000", x -> x.divide(1, 2, 3, 10000, 7));
        due("divide to 10000", "0", "7", "0 10000", x -> x.divide(1, 2, 3, 10000, 7));
        due("divide to -10000", "7E+10000", "7", "1 -10000", x -> x.divide(1, 2, 3, -10000, 7));
        due("divide to -10000", "1", "7", "1 -10000", x -> x.divide(1, 2, 3, -10000, 0));
    }

    private static void divideByNought() {
        House.sentence("ArithmeticException, too: b is 0.");
        for (String zero : new String[] {"0", "0.000", "0E+10000", "0E-10000"}) {
            for (String a : new String[] {"0", "7", "-1E+10000"}) {
                due("divide", a, zero, null, x -> x.divide(1, 2, 3, 0, 1));
                due("quotient", a, zero, null, x -> x.quotient(1, 2, 3, 5, 1));
                due("quotient exactly", a, zero, null, x -> x.quotient(1, 2, 3, 0, 1));
            }
        }
    }

    private static void exactly() {
        House.sentence("For the precision 0 exactly: of the decimals of just that value the one with the least scale that is not below the wish (any mode).");
        exact("1", "8", "125 3");
        exact("6", "2", "3 0");
        exact("6.00", "2", "300 2");
        exact("6", "2.00", "3 0");
        exact("600", "2.00", "3 -2");
        exact("600", "2.0", "30 -1");
        exact("1", "8E+5", "125 8");
        exact("0.00", "7", "0 2");
        exact("0", "7.00", "0 -2");
        exact("-1", "1024", "-9765625 10");
        exact(House.ten(999).toString(), "1E+1", House.ten(999) + " 1");
        exact("1E+10000", "1E+10000", "1 0");
    }

    private static void exactlyNot() {
        House.sentence("there is no decimal of just that value (for the precision 0)");
        exact("1", "3", null);
        exact("1", "7", null);
        exact("2", "6", null);
        exact("3", "6", "5 1");
        exact("1", "30", null);
        exact("3", "30", "1 1");
        exact("1", House.two(1430).toString(), BigInteger.valueOf(5).pow(1430) + " 1430");
        exact("1", House.two(1431).toString(), null);
        exact("0", "3", "0 0");
    }

    private static void quotientPrecisions() {
        House.sentence("IllegalArgumentException, too: precision is not 0 .. 1000.");
        Twins.range("the precision", 3, 0, 1000, (x, n) -> x.quotient(n[0], n[1], n[2], n[3], n[4]), 3, 3, 5, 5, 0);
        for (int precision : new int[] {-1, 1001, Integer.MIN_VALUE, Integer.MAX_VALUE}) {
            Twins.refuses("the precision " + precision + " by 0", House.ILLEGAL_ARGUMENT, with("1", "0"), x -> x.quotient(1, 2, 3, precision, 0));
            Twins.refuses("the precision " + precision + " of 0", House.ILLEGAL_ARGUMENT, with("0", "1"), x -> x.quotient(1, 2, 3, precision, 0));
        }
        due("to the precision 1", "2", "3", "7 1", x -> x.quotient(1, 2, 3, 1, 0));
        due("to the precision 1000", "2", "3", House.ten(1000).multiply(BigInteger.TWO).divide(BigInteger.valueOf(3)) + " 1000", x -> x.quotient(1, 2, 3, 1000, 1));
    }

    private static void quotientByNought() {
        House.sentence("ArithmeticException, too: b is 0; there is no decimal of just that value (for the precision 0).");
        due("quotient by mode 7", "1", "3", null, x -> x.quotient(1, 2, 3, 5, 7));
        due("quotient by mode 7", "1", "4", "25 2", x -> x.quotient(1, 2, 3, 2, 7));
        due("quotient by mode 7", "1", "4", null, x -> x.quotient(1, 2, 3, 1, 7));
        due("quotient by 0", "1", "0", null, x -> x.quotient(1, 2, 3, 1, 0));
    }

    private static void shapeScales() {
        House.sentence("IllegalArgumentException, too: n is not -10000 .. 10000 (0)");
        for (int n : new int[] {-10001, 10001, Integer.MIN_VALUE, Integer.MAX_VALUE}) {
            Twins.refuses("the scale " + n, House.ILLEGAL_ARGUMENT, with("0", "1"), x -> x.shape(0, 1, 3, n, 0));
            Twins.refuses("the scale " + n, House.ILLEGAL_ARGUMENT, with("-7", "1"), x -> x.shape(0, 1, 3, n, 0));
        }
        shape(0, "0", 10000, 7, "0 10000");
        shape(0, "0", -10000, 7, "0 -10000");
        shape(0, "7", -10000, 0, "1 -10000");
        shape(0, "7E-10000", 10000, 7, "7 10000");
        shape(0, "7", 0, 7, "7 0");
        shape(0, "7", 1, 7, "70 1");
    }

    private static void shapePrecisions() {
        House.sentence("or not 1 .. 1000 (1, 2)");
        for (int how = 1; how <= 2; how++) {
            int which = how;
            for (int n : new int[] {0, -1, 1001, 10000, -10000, Integer.MIN_VALUE, Integer.MAX_VALUE}) {
                Twins.refuses("the precision " + n, House.ILLEGAL_ARGUMENT, with("0", "1"), x -> x.shape(which, 1, 3, n, 0));
                Twins.refuses("the precision " + n, House.ILLEGAL_ARGUMENT, with("-7", "1"), x -> x.shape(which, 1, 3, n, 0));
            }
        }
        shape(1, "77", 1, 1, "7 -1");
        shape(1, "77", 1000, 1, "77 0");
        shape(2, "77", 1, 1, "8 0");
        shape(2, "77", 1000, 1, BigInteger.valueOf(77).multiply(House.ten(1998)).sqrt() + " 999");
    }

    private static void rootWish() {
        House.sentence("the square root of a, to the precision n, with half the scale of a, rounded down (to the next integer that is not greater), as the wish (2)");
        shape(2, "4", 9, 7, "2 0");
        shape(2, "4.0", 9, 7, "2 0");
        shape(2, "4.00", 9, 7, "20 1");
        shape(2, "4.000", 9, 7, "20 1");
        shape(2, "4.0000", 9, 7, "200 2");
        shape(2, "40E+1", 9, 7, "2 -1");
        shape(2, "4E+2", 9, 7, "2 -1");
        shape(2, "40E+3", 9, 7, "2 -2");
        shape(2, "0", 9, 7, "0 0");
        shape(2, "0.0", 9, 7, "0 0");
        shape(2, "0.00", 9, 7, "0 1");
        shape(2, "0E+1", 9, 7, "0 -1");
        shape(2, "0E+2", 9, 7, "0 -1");
        shape(2, "0E+3", 9, 7, "0 -2");
        shape(2, "0E-9999", 9, 7, "0 4999");
        shape(2, "0E+9999", 9, 7, "0 -5000");
    }

    private static void rootsBelow() {
        House.sentence("ArithmeticException, too: a is below 0 (2).");
        shape(2, "-1", 5, 0, null);
        shape(2, "-4", 5, 7, null);
        shape(2, "-1E-10000", 5, 0, null);
        shape(2, "0", 5, 0, "0 0");
        shape(2, "1E-10000", 5, 0, "1 5000");
        shape(0, "-1", 0, 0, "-1 0");
        shape(1, "-1", 5, 0, "-1 0");
        shape(2, "2", 5, 7, null);
    }

    private static void inPlace() {
        House.sentence("a call that throws changes nothing");
        Twins.refuses("divide to its own register", House.ARITHMETIC, with("1", "3"), x -> x.divide(1, 2, 1, 5, 7));
        Twins.refuses("divide to the other's register", House.ARITHMETIC, with("1", "3"), x -> x.divide(1, 2, 2, 5, 7));
        Twins.refuses("quotient to its own register", House.ARITHMETIC, with("1", "3"), x -> x.quotient(1, 2, 1, 0, 0));
        Twins.refuses("a root to its own register", House.ARITHMETIC, with("2", "3"), x -> x.shape(2, 1, 1, 5, 7));
        Twins.refuses("a power to its own register", House.ARITHMETIC, with("1E+9999", "3"), x -> x.decimalBy(0, 1, 2, 1));
        Twins.refuses("a shift to its own register", House.ARITHMETIC, with("1E+9999", "3"), x -> x.decimalBy(1, 1, 2, 1));
        Twins.refuses("a stripped one to its own register", House.ARITHMETIC, with("100E+9999", "3"), x -> x.decimalBy(2, 1, 2, 1));
        Twins.refuses("a sum to its own register", House.ARITHMETIC, with("1E+9999", "3"), x -> x.decimal(0, 1, 2, 1));
        Twins.refuses("a product to the other's register", House.ARITHMETIC, with("1E+9999", "3E+2"), x -> x.decimal(2, 1, 2, 2));
        Twins.refuses("a shape to its own register", House.ARITHMETIC, with("1.5", "3"), x -> x.shape(0, 1, 1, 0, 7));
    }
}
