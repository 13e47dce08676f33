/** The edges of float texts that can be read, as the document's Terms name them. */
public final class EdgeFloatTextsTest {
    public static void main(String[] args) {
        blanks();
        signs();
        words();
        digits();
        exponents();
        endings();
        hexadecimalDigits();
        hexadecimalExponents();
        wrappedExponents();
        whatTheySay();
        manyFigures();
        zeros();
        noNumbers();
        House.end();
    }

    /** Both formats read it, as this number. */
    private static void reads(String text, double want) {
        House h = new House();
        House.due("wide " + text, h.reads(2, 1, 10, text), true);
        House.due("wide " + text + " is", Long.toHexString(h.x.told(2, 1, 0)), Long.toHexString(Double.doubleToRawLongBits(want)));
        House.due("the tape is used up", h.x.wipe(), 0);
        House.due("narrow " + text, h.reads(3, 1, 10, text), true);
        House.due("narrow " + text + " is", Long.toHexString(h.x.told(3, 1, 0)), Integer.toHexString(Float.floatToRawIntBits((float) want)));
    }

    private static void readsNot(String... texts) {
        for (String text : texts) {
            Twins.answers("wide " + text, 0, Twins.withTape(text), x -> x.read(2, 1, 10) ? 1 : 0);
            Twins.answers("narrow " + text, 0, Twins.withTape(text), x -> x.read(3, 1, 10) ? 1 : 0);
        }
    }

    private static void blanks() {
        House.sentence("without the bytes not above 32 at the beginning and the end");
        House h = new House();
        for (int c = 0; c < 256; c++) {
            String one = String.valueOf((char) c);
            boolean blank = c <= 32;
            boolean before = blank || "0123456789+-.".indexOf(c) >= 0;
            boolean behind = blank || "0123456789.dDfF".indexOf(c) >= 0;
            House.due("the byte " + c + " before", h.reads(2, 1, 10, one + "1"), before);
            House.due("the byte " + c + " behind", h.reads(3, 1, 10, "1" + one), behind);
            House.due("the byte " + c + " alone", h.reads(2, 1, 10, one), c >= '0' && c <= '9');
        }
        String many = new String(new char[2049]).replace('\0', ' ');
        reads(many + "1" + many, 1);
        reads("\0\1\t\n\r \u001f1.5\u001f \r\n\t\1\0", 1.5);
        reads(" NaN ", Double.NaN);
        reads(" -Infinity\n", Double.NEGATIVE_INFINITY);
        reads(" 0x1p1 ", 2);
        reads(" 1d ", 1);
        readsNot("", " ", "\0", many, "- 1", "+ 1", "1 e5", "1e 5", "1e5 d", "1 d", "1 1", "0 x1p1", "0x1 p1", "0x1p 1", "1. 5", "N aN", "Inf inity", " \u00a01",
                "1\u0085", "!1", "1!");
    }

    private static void signs() {
        House.sentence("perhaps a sign, + or -, and then NaN, or Infinity, or a decimal");
        reads("5", 5);
        reads("+5", 5);
        reads("-5", -5);
        reads("+.5", 0.5);
        reads("-.5", -0.5);
        reads("+0x1p0", 1);
        reads("-0x1p0", -1);
        reads("+Infinity", Double.POSITIVE_INFINITY);
        readsNot("+", "-", "++5", "--5", "+-5", "-+5", "5+", "5-", "--0x1p0", "0x-1p0", "0x+1p0", "--Infinity", "+-NaN");
    }

    private static void words() {
        House.sentence("and then NaN, or Infinity");
        reads("NaN", Double.NaN);
        reads("Infinity", Double.POSITIVE_INFINITY);
        reads("-Infinity", Double.NEGATIVE_INFINITY);
        readsNot("nan", "NAN", "Nan", "NaN1", "1NaN", "NaNd", "NaNf", "Na", "N", "aN", "NaNN", "infinity", "INFINITY", "Inf", "Infinit", "Infinityy", "Infinityd",
                "InfinityF", "1Infinity", "Infinity1", "Infinity.", "NaN.", "NaNe1");
    }

    private static void digits() {
        House.sentence("a decimal: digits, perhaps with a point before, between or behind them (one at least)");
        reads("7", 7);
        reads(".5", 0.5);
        reads("7.", 7);
        reads("7.5", 7.5);
        reads("007.500", 7.5);
        reads("0.", 0);
        reads(".0", 0);
        reads("5.e1", 50);
        reads(".5e1", 5);
        reads("5.d", 5);
        readsNot(".", "+.", "-.", "..", ".e1", "e1", "-e1", ".d", "d", "f", "7..", "..7", ".7.", "7.5.", "7.5.1", "1,5", "1_0", "7a", "a", "7x", "/", ":", "7/", "7:");
    }

    private static void exponents() {
        House.sentence("perhaps e or E, perhaps a sign, and one or more digits");
        reads("5e1", 50);
        reads("5E1", 50);
        reads("5e+1", 50);
        reads("5e-1", 0.5);
        reads("5e0", 5);
        reads("5e00000000000000000000000000001", 50);
        reads("5e-00000000000000000000000000001", 0.5);
        reads("5e99999999999999999999999999999", Double.POSITIVE_INFINITY);
        reads("5e-9999999999999999999999999999", 0);
        reads("5e18446744073709551617", Double.POSITIVE_INFINITY);
        reads("5e-18446744073709551617", 0);
        for (String far : new String[] {"99999", "2147483646", "2147483647", "2147483648", "4294967295", "4294967296", "9223372036854775807", "9223372036854775808"}) {
            reads("5e" + far, Double.POSITIVE_INFINITY);
            reads("5e-" + far, 0);
            reads("-5e" + far, Double.NEGATIVE_INFINITY);
            reads("-5e-" + far, -0.0);
        }
        reads("5e4294967297", Double.POSITIVE_INFINITY);
        reads("5e-4294967297", 0);
        reads("5e" + new String(new char[4000]).replace('\0', '0') + "1", 50);
        readsNot("5e", "5E", "5e+", "5e-", "5e++1", "5e+-1", "5e1.", "5e1.0", "5e.1", "5e1e1", "5ee1", "5ed", "5e+d", "5p1", "5e1p1", "5ea");
    }

    private static void endings() {
        House.sentence("perhaps one of d D f F");
        for (String end : new String[] {"d", "D", "f", "F"}) {
            reads("5" + end, 5);
            reads("5." + end, 5);
            reads(".5" + end, 0.5);
            reads("5e1" + end, 50);
            reads("0x1p1" + end, 2);
            readsNot("5" + end + end, "5" + end + "d", "5" + end + "1", "5" + end + "e1", "5e1" + end + "F", "0x1p1" + end + end, end, "-" + end, "0x1" + end);
        }
        readsNot("5g", "5c", "5l", "5L", "5e1g", "0x1p1g", "0x1p1a");
    }

    private static void hexadecimalDigits() {
        House.sentence("or a hexadecimal: 0x or 0X, digits 0 .. 9 a .. f A .. F, perhaps with a point before, between or behind them (one at least)");
        reads("0x1p0", 1);
        reads("0X1p0", 1);
        reads("0x.8p0", 0.5);
        reads("0x8.p0", 8);
        reads("0x8.8p0", 8.5);
        reads("0x0p0", 0);
        reads("0x.0p0", 0);
        reads("0xap0", 10);
        reads("0xfp0", 15);
        reads("0xAp0", 10);
        reads("0xFp0", 15);
        reads("0x00009p0", 9);
        reads("0xdp0", 13);
        reads("0xep0", 14);
        reads("0xe1p0d", 0xe1);
        readsNot("0x", "0xp0", "0x.p0", "0X.P1", "0x", "x1p0", "00x1p0", "0xgp0", "0xGp0", "0x1gp0", "0x1..p0", "0x1.1.p0", "0x..1p0", "0xx1p0", "1x1p0", "0y1p0",
                "0x1.0", "0x/p0", "0x:p0", "0x@p0", "0x`p0");
    }

    private static void hexadecimalExponents() {
        House.sentence("and p or P, perhaps a sign, and one or more digits 0 .. 9");
        reads("0x1p1", 2);
        reads("0x1P1", 2);
        reads("0x1p+1", 2);
        reads("0x1p-1", 0.5);
        reads("0x1p0000000000000000000000000001", 2);
        reads("0x1p9999999999999999999999999999", Double.POSITIVE_INFINITY);
        reads("0x1p-9999999999999999999999999999", 0);
        reads("0x1p18446744073709551617", Double.POSITIVE_INFINITY);
        reads("0x1p4294967297", Double.POSITIVE_INFINITY);
        reads("0x1p-4294967297", 0);
        readsNot("0x1", "0x1.", "0x1.8", "0x1p", "0x1p+", "0x1p-", "0x1p++1", "0x1p1.", "0x1p1.0", "0x1pa", "0x1p1a", "0x1pp1", "0x1e1", "0x1p1p1", "0x1p1e1", "0x1q1", "0x1p+d");
    }

    /** Exponents that would look near to a program that keeps too few of their bits. */
    private static void wrappedExponents() {
        House.sentence("and p or P, perhaps a sign, and one or more digits 0 .. 9");
        House h = new House();
        for (long wrap : new long[] {1L << 31, 1L << 32, 1L << 33}) {
            for (long near : new long[] {-1100, -1075, -1074, -1054, -1022, -52, -1, 0, 1, 20, 52, 100, 1000, 1022, 1054, 1074, 1075, 1100}) {
                wide(h, "0x1p" + (wrap + near), Double.POSITIVE_INFINITY);
                wide(h, "0x1p-" + (wrap + near), 0.0);
                wide(h, "-0x1.8p-" + (wrap + near), -0.0);
                wide(h, "0x0p" + (wrap + near), 0.0);
                wide(h, "1e" + (wrap + near), Double.POSITIVE_INFINITY);
                wide(h, "1e-" + (wrap + near), 0.0);
                wide(h, "-1.5e-" + (wrap + near), -0.0);
                wide(h, "-0e" + (wrap + near), -0.0);
            }
        }
    }

    private static void whatTheySay() {
        House.sentence("What it says is the number that the digits and the point are, times 10 to the exponent; or that to the base 16, times 2 to the exponent.");
        reads("12.5e1", 125);
        reads("12.5e-1", 1.25);
        reads("0x12.8p4", 0x128);
        reads("0x12.8p-4", 0x1.28p0);
        reads("0x.001p12", 1);
        reads("0x1000p-12", 1);
        String zeros = new String(new char[3900]).replace('\0', '0');
        reads("0." + zeros + "5e3901", 5);
        reads("5" + zeros + "e-3900", 5);
        reads("0x0." + zeros + "8p15601", 1);
        reads("0x1" + zeros + "p-15600", 1);
        reads(zeros + "5", 5);
        reads("5." + zeros, 5);
    }

    /** One figure far behind decides between two floats, wherever it stands and whatever stands behind it. */
    private static void manyFigures() {
        House.sentence("It is read as what that rounds to");
        String zeros = new String(new char[3000]).replace('\0', '0');
        House h = new House();
        for (int far : new int[] {1, 40, 600, 782, 783, 784, 785, 799, 800, 801, 1500, 3000}) {
            for (int behind : new int[] {0, 1, 9, 800}) {
                String tail = zeros.substring(0, far) + "1" + zeros.substring(0, behind);
                wide(h, "9007199254740993." + tail, 9007199254740994.0);
                wide(h, "-9007199254740993." + tail, -9007199254740994.0);
                wide(h, "9007199254740993" + tail + "e-" + tail.length(), 9007199254740994.0);
                wide(h, "0x1.00000000000008" + tail + "p0", 1.0000000000000002);
                wide(h, "0x1000000000000.08" + tail + "p4", 0x1.0000000000001p52);
            }
            wide(h, "9007199254740993." + zeros.substring(0, far), 9007199254740992.0);
            wide(h, "0x1.00000000000008" + zeros.substring(0, far) + "p0", 1.0);
        }
        String nines = zeros.replace('0', '9');
        for (int before : new int[] {0, 1, 800, 1900}) {
            wide(h, zeros.substring(0, before) + "1" + nines.substring(0, 2149) + "e-2149", 2.0);
            wide(h, zeros.substring(0, before) + "." + zeros.substring(0, 7) + "1" + nines.substring(0, 2100) + "e8", 2.0);
            wide(h, "0x" + zeros.substring(0, before) + "1" + zeros.substring(0, 2000) + "p-8000", 1.0);
        }
    }

    private static void wide(House h, String text, double want) {
        House.due("wide " + text, h.reads(2, 1, 10, text), true);
        House.due("wide " + text + " is", Long.toHexString(h.x.told(2, 1, 0)), Long.toHexString(Double.doubleToRawLongBits(want)));
    }

    private static void zeros() {
        House.sentence("0 with the sign that the text has");
        for (String text : new String[] {"0", "0.0", ".0", "0.", "000", "0e5", "0e-99999999999999999999", "0e99999999999999999999", "0d", "0x0p0", "0x.0p99999999999999999999",
            "0x0.p-99999999999999999999f"}) {
            reads(text, 0.0);
            reads("+" + text, 0.0);
            reads("-" + text, -0.0);
            reads(" -" + text + " ", -0.0);
        }
    }

    private static void noNumbers() {
        House.sentence("NaN, with any sign, as no number with the highest bit of the fraction alone, sign 0");
        for (String text : new String[] {"NaN", "+NaN", "-NaN", " -NaN "}) {
            House h = new House();
            House.due("wide " + text, h.reads(2, 1, 10, text), true);
            House.due("its bits", h.x.told(2, 1, 0), 0x7ff8000000000000L);
            House.due("narrow " + text, h.reads(3, 1, 10, text), true);
            House.due("its bits", h.x.told(3, 1, 0), 0x7fc00000L);
        }
    }
}
