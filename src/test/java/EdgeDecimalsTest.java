import java.math.BigDecimal;
import java.math.BigInteger;

/** The edges of decimals that the document's Terms name: their scale, their precision, and their value. */
public final class EdgeDecimalsTest {
    private static final BigInteger NINES = House.ten(1000).subtract(BigInteger.ONE);
    private static final String LONGEST = NINES.toString();

    public static void main(String[] args) {
        scaleWhenRead();
        scaleOfSums();
        scaleOfProducts();
        scaleOfPowers();
        scaleOfQuotients();
        scaleOfRoots();
        scalesOnTheWay();
        precisionWhenRead();
        precisionOfSums();
        precisionOfProducts();
        precisionOfQuotients();
        precisionOfShapes();
        precisionOfWhatIsConverted();
        digitsOfZero();
        zeroHasNoSign();
        sameValue();
        House.end();
    }

    private interface Call {
        void run(NumberHouse x);
    }

    /** Registers 1 and 2 are a and b; register 3 gets the number and the scale, or nothing if it can't. */
    private static void due(String what, String a, String b, String want, Call call) {
        Twins.Setup setup = Twins.furnished(h -> {
            h.setDecimal(1, new BigDecimal(a));
            h.setDecimal(2, new BigDecimal(b));
        });
        String whole = what + " of " + a + " and " + b;
        if (want == null) {
            Twins.refuses(whole, House.ARITHMETIC, setup, call::run);
            return;
        }
        House h = new House();
        setup.make(h);
        House.due(whole + " throws", House.thrown(() -> call.run(h.x)), 0);
        House.due(whole, h.getDecimal(3).unscaledValue() + " " + h.x.told(1, 3, 1), want);
    }

    private static void decimal(int how, String a, String b, String want) {
        due("decimal " + how, a, b, want, x -> x.decimal(how, 1, 2, 3));
    }

    private static void by(int how, String a, int n, String want) {
        due("decimalBy " + how + " with " + n, a, "1", want, x -> x.decimalBy(how, 1, n, 3));
    }

    private static void quotient(String a, String b, int precision, int mode, String want) {
        due("quotient to " + precision + " by " + mode, a, b, want, x -> x.quotient(1, 2, 3, precision, mode));
    }

    private static void shape(int how, String a, int n, int mode, String want) {
        due("shape " + how + " to " + n + " by " + mode, a, "1", want, x -> x.shape(how, 1, 3, n, mode));
    }

    private static void scaleWhenRead() {
        House.sentence("A DECIMAL is an integer, its NUMBER u, and a SCALE s, -10000 .. 10000");
        String[][] good = {
            {"1e10000", "1 -10000"}, {"1e-10000", "1 10000"}, {"-0e10000", "0 -10000"}, {"0e-10000", "0 10000"}, {".1e-9999", "1 10000"},
            {"0.1e10001", "1 -10000"}, {"12.34e-9998", "1234 10000"}, {LONGEST + "e10000", LONGEST + " -10000"},
        };
        for (String[] row : good) {
            House h = new House();
            House.due("read " + row[0], h.reads(1, 1, 10, row[0]), true);
            House.due("it is", h.getDecimal(1).unscaledValue() + " " + h.x.told(1, 1, 1), row[1]);
        }
        String[] bad = {"1e10001", "1e-10001", "0e10001", "-0e-10001", ".1e-10000", "0.1e10002", "12.34e-9999", "1.e10001",
            "1e9999999999", "1e-9999999999", "0e9999999999", "0e-9999999999", "1e4294967296", "1e-4294967296", "1e2147483648"};
        for (String text : bad) {
            Twins.refuses("read " + text, House.ARITHMETIC, Twins.withTape(text), x -> x.read(1, 1, 10));
        }
    }

    private static void scaleOfSums() {
        House.sentence("A DECIMAL is an integer, its NUMBER u, and a SCALE s, -10000 .. 10000");
        decimal(0, "1E-10000", "1E-10000", "2 10000");
        decimal(0, "1E+10000", "1E+10000", "2 -10000");
        decimal(1, "1E-10000", "2E-10000", "-1 10000");
        decimal(3, "5E-10000", "3E-10000", "2 10000");
        decimal(3, "5E+10000", "3E+10000", "2 -10000");
    }

    private static void scaleOfProducts() {
        House.sentence("A DECIMAL is an integer, its NUMBER u, and a SCALE s, -10000 .. 10000");
        decimal(2, "3E-10000", "2", "6 10000");
        decimal(2, "3E-5000", "2E-5000", "6 10000");
        decimal(2, "3E-5000", "2E-5001", null);
        decimal(2, "3E-10000", "0.2", null);
        decimal(2, "0E-10000", "0.2", null);
        decimal(2, "3E+5000", "-2E+5000", "-6 -10000");
        decimal(2, "3E+5000", "-2E+5001", null);
        decimal(2, "0E+10000", "0E+1", null);
        decimal(2, "3E+10000", "2E-10000", "6 0");
        decimal(2, "3E+10000", "2E+10000", null);
    }

    private static void scaleOfPowers() {
        House.sentence("A DECIMAL is an integer, its NUMBER u, and a SCALE s, -10000 .. 10000");
        by(0, "1E-5000", 2, "1 10000");
        by(0, "1E-5001", 2, null);
        by(0, "-1E+5000", 2, "1 -10000");
        by(0, "-1E+5001", 2, null);
        by(0, "0E-5001", 2, null);
        by(0, "1E+10000", 1, "1 -10000");
        by(0, "1E+10000", 0, "1 0");
        by(0, "1E-10", 999, "1 9990");
        by(0, "1E-11", 999, null);
        by(1, "7E-9999", -1, "7 10000");
        by(1, "7E-10000", -1, null);
        by(1, "7E+9999", 1, "7 -10000");
        by(1, "7E+10000", 1, null);
        by(1, "7E+10000", -20000, "7 10000");
        by(1, "7E+10000", -20001, null);
        by(1, "0", 10001, null);
        by(1, "7", Integer.MIN_VALUE, null);
        by(1, "7E+10000", Integer.MAX_VALUE, null);
        by(2, "10E+9999", 0, "1 -10000");
        by(2, "10E+10000", 0, null);
        by(2, "12E+10000", 0, "12 -10000");
        by(2, "0E+10000", 0, "0 0");
    }

    private static void scaleOfQuotients() {
        House.sentence("a register must then be able to have the one that is found");
        quotient("6E-10000", "2", 5, 7, "3 10000");
        quotient("6E-10000", "2E+1", 5, 7, null);
        quotient("60E-10000", "2E+1", 1, 7, "3 10000");
        quotient("60E-10000", "2E+1", 2, 7, null);
        quotient("6E+10000", "2", 5, 7, "3 -10000");
        quotient("6E+10000", "2E-1", 5, 7, null);
        quotient("1E-9995", "3", 5, 1, "33333 10000");
        quotient("1E-9996", "3", 5, 1, null);
        quotient("99.9E+9998", "1", 2, 4, "10 -9999");
        quotient("99.9E+9999", "1", 2, 4, "10 -10000");
        quotient("99.9E+10000", "1", 2, 1, "99 -10000");
        quotient("99.9E+10000", "1", 2, 4, null);
        quotient("0E-10000", "1", 5, 0, "0 10000");
        quotient("0E-10000", "1E+1", 5, 0, null);
        quotient("0E+10000", "1", 5, 0, "0 -10000");
        quotient("0E+10000", "0.1", 5, 0, null);
        quotient("6E-10000", "2", 0, 0, "3 10000");
        quotient("6E-10000", "2E+1", 0, 0, null);
        quotient("1E-9999", "2", 0, 0, "5 10000");
        quotient("1E-10000", "2", 0, 0, null);
        quotient("0E-10000", "1E+1", 0, 0, null);
        quotient("6E+10000", "2E-1", 0, 0, null);
        shape(1, "15E+9999", 1, 0, "2 -10000");
        shape(1, "15E+10000", 1, 0, null);
        shape(1, "10E+10000", 1, 7, null);
        shape(1, "10E+9999", 1, 7, "1 -10000");
    }

    /** Half of a scale can't be too great, so that a root has what it needs. */
    private static void scaleOfRoots() {
        House.sentence("a register must then be able to have the one that is found");
        shape(2, "1E-10000", 1000, 7, "1 5000");
        shape(2, "1E+10000", 1000, 7, "1 -5000");
        shape(2, "0E-10000", 1, 7, "0 5000");
        shape(2, "0E+10000", 1, 7, "0 -5000");
        shape(2, "2E-10000", 1000, 1, new BigDecimal(BigInteger.TWO).multiply(new BigDecimal(House.ten(1998))).toBigInteger().sqrt() + " 5999");
    }

    /** The wish lies where no register can have it, the scale that is found does not. */
    private static void scalesOnTheWay() {
        House.sentence("(Scales are any integers here, and where a least or nearest one is asked for below; a register must then be able to have the one that is found.)");
        String far = House.ten(600) + "E-10000";
        quotient(far, "1E+500", 1, 7, "1 9900");
        quotient(far, "1E+500", 101, 7, House.ten(100) + " 10000");
        quotient(far, "1E+500", 102, 7, null);
        quotient(far, "1E+500", 1000, 7, null);
        quotient(far, "1E+500", 0, 7, null);
        quotient(far, "3E+500", 102, 1, null);
        quotient(far, "3E+500", 101, 1, null);
        quotient(far, "3E+500", 100, 1, House.ten(100).divide(BigInteger.valueOf(3)) + " 10000");
        quotient("1E+10000", "8E-2", 0, 7, "125 -9999");
        quotient("1E+10000", "8E-3", 0, 7, "125 -10000");
        quotient("1E+10000", "8E-4", 0, 7, null);
        quotient("1E+9999", "8E-2", 0, 7, "125 -9998");
        quotient("1E+10000", "8E-2", 1000, 7, "125 -9999");
        by(2, "1000E+9998", 0, null);
        by(2, "1000E+9997", 0, "1 -10000");
        shape(1, "1000E+9998", 1, 7, null);
        shape(1, "1000E+9998", 2, 7, "10 -10000");
    }

    private static void precisionWhenRead() {
        House.sentence("Its PRECISION is how many digits u has (0 has one), 1000 at most.");
        String[] good = {LONGEST, "-" + LONGEST, "000" + LONGEST, "." + LONGEST, "0.000" + LONGEST, "1" + LONGEST.substring(1).replace('9', '0')};
        for (String text : good) {
            House h = new House();
            House.due("1000 digits", h.reads(1, 1, 10, text), true);
            House.due("are told", h.x.told(1, 1, 2), 1000);
            House.due("they are", h.getDecimal(1), new BigDecimal(text));
        }
        String[] bad = {LONGEST + "9", LONGEST + "0", "-" + LONGEST + "0", "1" + LONGEST.replace('9', '0'), LONGEST + ".0", LONGEST + ".0e1",
            "0.1" + LONGEST, "1" + LONGEST + "e-1000"};
        for (String text : bad) {
            Twins.refuses("1001 digits", House.ARITHMETIC, Twins.withTape(text), x -> x.read(1, 1, 10));
        }
        House h = new House();
        House.due("zeros before do not count", h.reads(1, 1, 10, LONGEST.replace('9', '0') + "7"), true);
        House.due("there is one digit", h.x.told(1, 1, 2), 1);
    }

    private static void precisionOfSums() {
        House.sentence("Its PRECISION is how many digits u has (0 has one), 1000 at most.");
        String near = NINES.subtract(BigInteger.ONE).toString();
        decimal(0, near, "1", LONGEST + " 0");
        decimal(0, LONGEST, "1", null);
        decimal(0, "-" + near, "-1", "-" + LONGEST + " 0");
        decimal(0, "-" + LONGEST, "-1", null);
        decimal(1, "-" + near, "1", "-" + LONGEST + " 0");
        decimal(1, "-" + LONGEST, "1", null);
        decimal(0, LONGEST, "0.0", null);
        decimal(0, "0.0", LONGEST, null);
        decimal(1, "1E+1000", "1", LONGEST + " 0");
        decimal(0, "1E+999", "1", House.ten(999).add(BigInteger.ONE) + " 0");
        decimal(0, "1E+1000", "1", null);
        decimal(0, "1E+1000", "0", null);
        decimal(0, "0E+10000", "0E-10000", "0 10000");
        decimal(0, "1E+10000", "-1E-10000", null);
        decimal(1, "1E-10000", "1E+10000", null);
        decimal(3, LONGEST, LONGEST, "0 0");
        decimal(3, near, LONGEST, near + " 0");
        decimal(3, LONGEST, "1E-10000", "0 10000");
    }

    private static void precisionOfProducts() {
        House.sentence("Its PRECISION is how many digits u has (0 has one), 1000 at most.");
        BigInteger half = House.ten(500);
        decimal(2, half.toString(), half.subtract(BigInteger.ONE).toString(), half.multiply(half.subtract(BigInteger.ONE)) + " 0");
        decimal(2, half.toString(), half.toString(), null);
        decimal(2, LONGEST, "-1", "-" + LONGEST + " 0");
        decimal(2, LONGEST, "2", null);
        decimal(2, House.ten(999).toString(), "9", House.ten(999).multiply(BigInteger.valueOf(9)) + " 0");
        decimal(2, House.ten(999).toString(), "10", null);
        decimal(2, LONGEST, "0", "0 0");
        by(0, half.subtract(BigInteger.ONE).toString(), 2, half.subtract(BigInteger.ONE).pow(2) + " 0");
        by(0, half.toString(), 2, null);
        by(0, "10", 999, House.ten(999) + " 0");
        by(0, "11", 960, BigInteger.valueOf(11).pow(960) + " 0");
        by(0, "11", 961, null);
        by(0, LONGEST, 1, LONGEST + " 0");
        by(0, LONGEST, 2, null);
        by(0, LONGEST, 999, null);
    }

    private static void precisionOfQuotients() {
        House.sentence("Its PRECISION is how many digits u has (0 has one), 1000 at most.");
        due("divide to 999", "1", "1", House.ten(999) + " 999", x -> x.divide(1, 2, 3, 999, 7));
        due("divide to 1000", "1", "1", null, x -> x.divide(1, 2, 3, 1000, 7));
        due("divide to 1000", "9", "10", House.ten(999).multiply(BigInteger.valueOf(9)) + " 1000", x -> x.divide(1, 2, 3, 1000, 7));
        due("divide to 1000", "1", "-0.1", null, x -> x.divide(1, 2, 3, 1000, 7));
        due("divide to 0, down", LONGEST, "1", LONGEST + " 0", x -> x.divide(1, 2, 3, 0, 1));
        due("divide to -1, up", LONGEST, "1", House.ten(999) + " -1", x -> x.divide(1, 2, 3, -1, 0));
        due("divide to 0, down", LONGEST + "E+1", "10.1", NINES.multiply(House.ten(2)).divide(BigInteger.valueOf(101)) + " 0",
                x -> x.divide(1, 2, 3, 0, 1));
        due("divide to 0, up to a power of ten", LONGEST + "E+3", "999.99999", null, x -> x.divide(1, 2, 3, 0, 0));
        due("divide to 10000", "1E+10000", "1E-10000", null, x -> x.divide(1, 2, 3, 10000, 1));
        String near = NINES.subtract(BigInteger.ONE).toString();
        due("divide to 1000, up", near, LONGEST, LONGEST + " 1000", x -> x.divide(1, 2, 3, 1000, 0));
        due("divide to 1000, down", near, LONGEST, near + " 1000", x -> x.divide(1, 2, 3, 1000, 1));
        due("divide to 1000", LONGEST, LONGEST, null, x -> x.divide(1, 2, 3, 1000, 7));
        quotient("1", "3", 1000, 1, House.ten(1000).divide(BigInteger.valueOf(3)) + " 1000");
        quotient("1", House.two(1430).toString(), 0, 7, BigInteger.valueOf(5).pow(1430) + " 1430");
        quotient("1", House.two(1431).toString(), 0, 7, null);
        quotient(LONGEST, "2", 0, 7, null);
        quotient(LONGEST, "2", 1000, 7, null);
        quotient(LONGEST, "2", 1000, 1, NINES.divide(BigInteger.TWO).toString() + " 0");
    }

    private static void precisionOfShapes() {
        House.sentence("Its PRECISION is how many digits u has (0 has one), 1000 at most.");
        shape(0, "1", 999, 7, House.ten(999) + " 999");
        shape(0, "1", 1000, 7, null);
        shape(0, "0.1", 1000, 7, House.ten(999) + " 1000");
        shape(0, "0", 10000, 7, "0 10000");
        shape(0, LONGEST, 0, 7, LONGEST + " 0");
        shape(0, LONGEST, 1, 7, null);
        shape(0, LONGEST + "E-1", 0, 0, House.ten(999) + " 0");
        shape(0, "-1E+10000", -9001, 7, House.ten(999).negate() + " -9001");
        shape(0, "-1E+10000", -9000, 7, null);
        shape(1, LONGEST, 1000, 7, LONGEST + " 0");
        shape(1, LONGEST, 999, 0, House.ten(998) + " -2");
    }

    private static void precisionOfWhatIsConverted() {
        House.sentence("Its PRECISION is how many digits u has (0 has one), 1000 at most.");
        House h = new House();
        h.setWhole(1, House.two(2048).subtract(BigInteger.ONE).negate());
        h.x.convert(0, 1, 1, 2);
        House.due("the least whole fits", h.getDecimal(2), House.two(2048).subtract(BigInteger.ONE).negate());
        House.due("with its digits", h.x.told(1, 2, 2), 617);
        h.x.put(2, 1, 0x000fffffffffffffL);
        h.x.convert(2, 1, 1, 2);
        House.due("the most digits of a float fit", h.x.told(1, 2, 2), 767);
        House.due("all of them", h.getDecimal(2), new BigDecimal(Double.longBitsToDouble(0x000fffffffffffffL)));
    }

    private static void digitsOfZero() {
        House.sentence("Its PRECISION is how many digits u has (0 has one), 1000 at most.");
        House h = new House();
        for (String text : new String[] {"0", "-0", "000", "0.000", "0e10000", "0e-10000"}) {
            House.due("read " + text, h.reads(1, 1, 10, text), true);
            House.due("it has one digit", h.x.told(1, 1, 2), 1);
            House.due("which is 0", h.x.told(1, 1, 3), 0);
            House.due("and no sign", h.x.told(1, 1, 0), 0);
        }
        for (int digits = 1; digits <= 1000; digits += digits < 40 || digits > 990 ? 1 : 37) {
            h.setDecimal(1, new BigDecimal(House.ten(digits - 1)));
            House.due("a power of ten", h.x.told(1, 1, 2), digits);
            h.setDecimal(1, new BigDecimal(House.ten(digits).subtract(BigInteger.ONE).negate()));
            House.due("nines", h.x.told(1, 1, 2), digits);
        }
    }

    /** Nor does it get one from the call before, whose answer was below 0. */
    private static void zeroHasNoSign() {
        House.sentence("Written it has the digits of its number, and - before all if it is below 0.");
        Twins.Act[] calls = {
            x -> x.decimal(0, 1, 2, 3), x -> x.decimal(1, 1, 1, 3), x -> x.decimal(2, 1, 0, 3), x -> x.decimal(3, 1, 2, 3), x -> x.decimal(3, 0, 1, 3),
            x -> x.decimalBy(0, 0, 3, 3), x -> x.decimalBy(1, 0, 3, 3), x -> x.decimalBy(2, 0, 3, 3), x -> x.divide(0, 1, 3, 5, 0), x -> x.divide(1, 2, 3, -5, 1),
            x -> x.quotient(0, 1, 3, 5, 0), x -> x.quotient(0, 1, 3, 0, 0), x -> x.shape(0, 0, 3, 2, 0), x -> x.shape(0, 1, 3, -5, 1), x -> x.shape(1, 0, 3, 2, 0),
            x -> x.shape(2, 0, 3, 2, 0), x -> x.convert(0, 0, 1, 3), x -> x.convert(1, 0, 1, 3), x -> x.convert(2, 0, 1, 3), x -> x.convert(2, 2, 1, 3), x -> x.put(1, 3, 0),
        };
        for (int i = 0; i < calls.length; i++) {
            House h = new House();
            h.x.put(0, 1, -7);
            h.x.put(1, 1, -7);
            h.x.put(1, 2, 7);
            h.x.put(2, 2, Long.MIN_VALUE);
            h.x.whole(2, 1, 1, 2);
            h.x.whole(1, 1, 2, 3);
            House.due("the call before", h.x.told(0, 3, 0), -56);
            calls[i].call(h.x);
            House.due("the sign of call " + i, h.x.told(1, 3, 0), 0);
            House.due("the text of call " + i, h.printed(1, 3, 1).startsWith("0"), true);
            h.x.whole(1, 1, 2, 3);
            h.x.whole(1, 1, 1, 3);
            House.due("a whole", h.printed(0, 3, 10), "0");
        }
    }

    private static void sameValue() {
        House.sentence("Decimals of the same value may have different scales.");
        String[] texts = {"1e3", "10e2", "1000", "1000.0", "1000." + LONGEST.substring(4).replace('9', '0')};
        House h = new House();
        for (int a = 0; a < texts.length; a++) {
            House.due("read", h.reads(1, a, 10, texts[a]), true);
        }
        int[] scales = {-3, -2, 0, 1, 996};
        for (int a = 0; a < texts.length; a++) {
            House.due("the scale of " + texts[a], h.x.told(1, a, 1), scales[a]);
            for (int b = 0; b < texts.length; b++) {
                House.due("the value is the same", h.x.compare(1, a, b), 0);
            }
        }
        House.due("0 of great scale", h.reads(1, 8, 10, "0e-10000"), true);
        House.due("0 of little scale", h.reads(1, 9, 10, "0e10000"), true);
        House.due("are the same", h.x.compare(1, 8, 9), 0);
    }
}
