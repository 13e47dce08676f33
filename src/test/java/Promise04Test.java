import java.math.BigInteger;

/** Promise 4: read. */
public final class Promise04Test {
    public static void main(String[] args) {
        wholes();
        decimals();
        floats();
        hexadecimals();
        oneAfterAnother();
        wrongCalls();
        House.end();
    }

    private static void whole(String text, int base, String want) {
        House h = new House();
        h.x.put(0, 4, 99);
        House.due("whole " + text, h.reads(0, 4, base, text), want != null);
        House.due("whole " + text + " is", h.printed(0, 4, 10), want == null ? "99" : want);
        House.due("tape after " + text, h.x.wipe(), want == null ? text.length() : 0);
    }

    private static void wholes() {
        whole("0", 10, "0");
        whole("-0", 10, "0");
        whole("+0012", 10, "12");
        whole("-zZ", 36, "-1295");
        whole("fF", 16, "255");
        whole("-101", 2, "-5");
        whole("", 10, null);
        whole("+", 10, null);
        whole("-", 10, null);
        whole("+-1", 10, null);
        whole("1-", 10, null);
        whole(" 1", 10, null);
        whole("1 ", 10, null);
        whole("12", 2, null);
        whole("a", 10, null);
        whole("g", 16, null);
        whole("1.0", 10, null);
        whole("{", 36, null);
        whole("@", 36, null);
        whole("[", 36, null);
        whole("`", 36, null);
        whole("/", 36, null);
        whole(":", 36, null);
        whole("1\u00c1", 36, null);
        House h = new House();
        BigInteger most = House.two(2048).subtract(BigInteger.ONE);
        for (int base : new int[] {2, 10, 36}) {
            House.due("the greatest", h.reads(0, 0, base, most.negate().toString(base)), true);
            House.due("the greatest to " + base, h.getWhole(0), most.negate());
            h.tape(House.two(2048).toString(base));
            h.refuses("one more to " + base, House.ARITHMETIC, () -> h.x.read(0, 0, base));
            h.tape("-" + House.two(2048).toString(base));
            h.refuses("one less to " + base, House.ARITHMETIC, () -> h.x.read(0, 0, base));
        }
        h.tape(House.two(2049).toString(2) + "x");
        House.due("no text comes before too great", h.x.read(0, 0, 2), false);
        StringBuilder zeros = new StringBuilder();
        for (int i = 0; i < 4099; i++) {
            zeros.append('0');
        }
        House.due("many zeros", h.reads(0, 0, 10, zeros + "7") && h.x.told(0, 0, 0) == 7, true);
    }

    private static void decimal(String text, String number, int scale) {
        House h = new House();
        h.x.put(1, 4, 99);
        boolean good = number != null;
        House.due("decimal " + text, h.reads(1, 4, 10, text), good);
        House.due("decimal " + text + " is", h.getDecimal(4).unscaledValue(), good ? number : "99");
        House.due("scale of " + text, h.x.told(1, 4, 1), good ? scale : 0);
        House.due("tape after " + text, h.x.wipe(), good ? 0 : text.length());
    }

    private static void decimals() {
        decimal("0", "0", 0);
        decimal("-0.00", "0", 2);
        decimal("12.50", "1250", 2);
        decimal("+.5", "5", 1);
        decimal("5.", "5", 0);
        decimal("-007.10e3", "-710", -1);
        decimal("1E+9", "1", -9);
        decimal("1e-0000000009", "1", 9);
        decimal("1e0000010000", "1", -10000);
        decimal("1e-10000", "1", 10000);
        decimal("0e10000", "0", -10000);
        decimal(".1e-9999", "1", 10000);
        String[] none = {"", ".", "+", "-.", "e1", "1e", "1e+", "1e-", "1e00000000001", "1.2.3", "1..", " 1", "1 ",
            "1e1.0", "1f", "0x1p1", "NaN", "1e1e1", "1d5", "1D5", "1g", "--1", "1,0", "+-1", "1e+-1"};
        for (String text : none) {
            decimal(text, null, 0);
        }
        String[] tooGreat = {"1e10001", "1e-10001", "0e10001", "0e-10001", "1e9999999999", "1e-9999999999",
            "0.1e-10000", "1" + zeros(1000), "0.1" + zeros(1000)};
        House h = new House();
        for (String text : tooGreat) {
            h.tape(text);
            h.refuses("decimal " + text, House.ARITHMETIC, () -> h.x.read(1, 0, 10));
        }
        House.due("a thousand figures", h.reads(1, 0, 10, "000." + "9" + zeros(999)), true);
        House.due("a thousand figures are", h.x.told(1, 0, 2), 1000);
        House.due("many zeros before", h.reads(1, 0, 10, zeros(2000) + "." + zeros(2000) + "12e2000"), true);
        House.due("their number", h.printed(1, 0, 0), "0.12");
        h.tape("1" + zeros(1000) + "x");
        House.due("no text comes before too great", h.x.read(1, 0, 10), false);
    }

    private static String zeros(int n) {
        return new String(new char[n]).replace('\0', '0');
    }

    private static void wide(String text, double want) {
        House h = new House();
        House.due("wide " + text, h.reads(2, 9, 10, text), true);
        House.due("wide " + text + " is", h.x.told(2, 9, 0), Double.doubleToRawLongBits(want));
        House.due("tape after " + text, h.x.wipe(), 0);
    }

    private static void narrow(String text, float want) {
        House h = new House();
        House.due("narrow " + text, h.reads(3, 9, 10, text), true);
        House.due("narrow " + text + " is", h.x.told(3, 9, 0), Float.floatToRawIntBits(want) & 0xffffffffL);
    }

    private static void noFloat(String text) {
        House h = new House();
        h.x.put(2, 9, 5);
        House.due("no float " + text, h.reads(2, 9, 10, text) || h.x.read(3, 9, 10), false);
        House.due("register after " + text, h.x.told(2, 9, 0), 5);
        House.due("tape after " + text, h.x.wipe(), text.length());
    }

    private static void floats() {
        wide("1", 1.0);
        wide(" \t\n-0.0\u0000 ", -0.0);
        wide("+0", 0.0);
        wide("-.5e1D", -5.0);
        wide("5.E-1f", 0.5);
        wide("17d", 17.0);
        wide("17F", 17.0);
        wide("NaN", Double.NaN);
        wide("-NaN", Double.NaN);
        wide("+Infinity", Double.POSITIVE_INFINITY);
        wide("-Infinity", Double.NEGATIVE_INFINITY);
        wide("4.9e-324", Double.MIN_VALUE);
        wide("2.4703282292062327208e-324", 0.0);
        wide("-2.4703282292062327208e-324", -0.0);
        wide("2.4703282292062327209e-324", Double.MIN_VALUE);
        wide("1.7976931348623158e308", Double.MAX_VALUE);
        wide("1.7976931348623159e308", Double.POSITIVE_INFINITY);
        wide("-1e400", Double.NEGATIVE_INFINITY);
        wide("1e99999999999999999999999999", Double.POSITIVE_INFINITY);
        wide("0e99999999999999999999999999", 0.0);
        wide("1e-99999999999999999999999999", 0.0);
        wide("9007199254740993", 9007199254740992.0);
        wide("9007199254740993." + zeros(2000) + "1", 9007199254740994.0);
        wide("9007199254740993" + zeros(2000) + "e-2000", 9007199254740992.0);
        wide("0." + zeros(3000) + "25e3001", 2.5);
        wide("25" + zeros(3000) + "e-3001", 2.5);
        BigInteger wideEdge = House.two(1024).subtract(House.two(970));
        BigInteger narrowEdge = House.two(128).subtract(House.two(103));
        wide(wideEdge.toString(), Double.POSITIVE_INFINITY);
        wide(wideEdge.subtract(BigInteger.ONE).toString(), Double.MAX_VALUE);
        wide("-" + wideEdge.subtract(BigInteger.ONE) + ".9", -Double.MAX_VALUE);
        narrow("-" + narrowEdge, Float.NEGATIVE_INFINITY);
        narrow(narrowEdge.subtract(BigInteger.ONE) + ".9999", Float.MAX_VALUE);
        narrow("1e-45", Float.MIN_VALUE);
        narrow("7.0e-46", 0.0f);
        narrow("-NaN", Float.NaN);
        narrow("-Infinity", Float.NEGATIVE_INFINITY);
        narrow("16777217", 16777216.0f);
        narrow("16777217.0000000000000000000000000001", 16777218.0f);
        String[] none = {"", " ", ".", "+", "e5", "1e", "1e+", "1ef", "1dd", "1 d", "nan", "infinity", "Inf", "NaNf",
            "Infinityd", "+ 1", "1,5", "1e5.0", "--1", "0x", "0x1", "0x1.8", "0xp1", "0x.p1", "0x1p", "0x1p+", "0x1pa",
            "0x1p1 1", "0x1.1.1p1", "1_0", "1L", "f", "- NaN", "N", "x1p1", "0x1p1df", "00x1p1", "1d5", "1D5", "0x1q1", "0y1p1", "1g", "1c"};
        for (String text : none) {
            noFloat(text);
        }
    }

    /** What one text was does not count for the next one. */
    private static void oneAfterAnother() {
        House h = new House();
        String[] texts = {"-0." + zeros(10) + "9" + zeros(900) + "1e-5", "9007199254740993", "-0x1." + zeros(60) + "1p-3",
            "0x1.00000000000008p0", "9007199254740993", "-1e", "7", "0x1p5", "1.5"};
        for (String text : texts) {
            boolean good = !text.equals("-1e");
            House.due("read " + text, h.reads(2, 1, 10, text), good);
            if (good) {
                House.due("wide " + text, h.x.told(2, 1, 0), Double.doubleToRawLongBits(Double.parseDouble(text)));
            }
        }
        House.due("a long decimal", h.reads(1, 0, 10, "-1." + zeros(999) + "e-5"), true);
        House.due("a short one", h.reads(1, 0, 10, "5"), true);
        House.due("it alone", h.printed(1, 0, 0), "5");
        House.due("a whole", h.reads(0, 0, 10, "-12") && h.reads(0, 0, 10, "3"), true);
        House.due("it alone, too", h.printed(0, 0, 10), "3");
    }

    private static void hexadecimals() {
        wide("0x1p0", 1.0);
        wide("-0X.8P1", -1.0);
        wide("0xAbC.dEfp-4f", 0xAbC.dEfp-4);
        wide("0x10.p+3D", 128.0);
        wide("0x0p99999999999999999999", 0.0);
        wide("-0x0.0p-5", -0.0);
        wide("0x1p1024", Double.POSITIVE_INFINITY);
        wide("-0x1p99999999999999999999", Double.NEGATIVE_INFINITY);
        wide("0x1p-99999999999999999999", 0.0);
        wide("0x1.fffffffffffff7fffp1023", Double.MAX_VALUE);
        wide("0x1.fffffffffffff8p1023", Double.POSITIVE_INFINITY);
        wide("0x1p-1075", 0.0);
        wide("0x1." + zeros(3000) + "1p-1075", Double.MIN_VALUE);
        wide("0x0." + zeros(2000) + "1p8004", 1.0);
        wide("0x1" + zeros(2000) + "p-8000", 1.0);
        wide("0x1.00000000000008p0", 1.0);
        wide("0x1.00000000000008" + zeros(500) + "1p0", 1.0000000000000002);
        wide("0x1.00000000000018p0", 1.0000000000000004);
        narrow("0x1.000001p0", 1.0f);
        narrow("0x1.0000010000000000000001p0", 1.0000001f);
        narrow("0x1.fffffefp127", Float.MAX_VALUE);
        narrow("0x1.ffffffp127", Float.POSITIVE_INFINITY);
        narrow("0x1p-150", 0.0f);
        narrow("0x1.8p-150", Float.MIN_VALUE);
    }

    private static void wrongCalls() {
        House h = new House();
        h.tape("1");
        int[][] calls = {{-1, 0, 10}, {4, 0, 10}, {0, -1, 10}, {0, 10, 10}, {1, 10, 10}, {0, 0, 1}, {0, 0, 37},
            {1, 0, 2}, {2, 0, 16}, {3, 0, 9}, {3, 10, 10}};
        for (int[] call : calls) {
            h.refuses("read " + call[0] + " " + call[1] + " " + call[2], House.ILLEGAL_ARGUMENT,
                    () -> h.x.read(call[0], call[1], call[2]));
        }
        House.due("the tape is as it was", h.x.read(0, 0, 10) && h.x.told(0, 0, 0) == 1, true);
    }
}
