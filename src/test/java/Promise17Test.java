import java.math.BigDecimal;
import java.math.BigInteger;

/** Promise 17: print. */
public final class Promise17Test {
    public static void main(String[] args) {
        wholes();
        decimals();
        floats();
        wrongCalls();
        House.end();
    }

    private static void wholes() {
        House h = new House();
        h.x.put(0, 1, -255);
        House.due("to 16", h.printed(0, 1, 16), "-ff");
        House.due("to 2", h.printed(0, 1, 2), "-11111111");
        House.due("to 36", h.printed(0, 1, 36), "-73");
        House.due("0", h.printed(0, 0, 2), "0");
        BigInteger least = House.two(2048).subtract(BigInteger.ONE).negate();
        h.setWhole(2, least);
        for (int base = 2; base <= 36; base++) {
            House.due("the least to " + base, h.printed(0, 2, base), least.toString(base));
        }
        h.setWhole(3, House.ten(400));
        House.due("zeros in it", h.printed(0, 3, 10), House.ten(400));
        House.due("a short one behind a long one", h.printed(0, 1, 10), "-255");
    }

    private static void decimal(String text, String... want) {
        House h = new House();
        h.setDecimal(1, new BigDecimal(text));
        for (int style = 0; style < 3; style++) {
            House.due(text + " in style " + style, h.printed(1, 1, style), want[Math.min(style, want.length - 1)]);
        }
    }

    private static String zeros(int n) {
        return new String(new char[n]).replace('\0', '0');
    }

    private static void decimals() {
        decimal("0", "0");
        decimal("-12", "-12");
        decimal("0.00", "0.00");
        decimal("12.50", "12.50");
        decimal("-0.000001", "-0.000001");
        decimal("0.0000001", "1E-7", "0.0000001", "100E-9");
        decimal("-0.00000012", "-1.2E-7", "-0.00000012", "-120E-9");
        decimal("0.0000001234", "1.234E-7", "0.0000001234", "123.4E-9");
        decimal("0.00000012345", "1.2345E-7", "0.00000012345", "123.45E-9");
        decimal("1E-8", "1E-8", "0.00000001", "10E-9");
        decimal("1E-9", "1E-9", "0.000000001", "1E-9");
        decimal("1E+1", "1E+1", "10", "10");
        decimal("12E+1", "1.2E+2", "120", "120");
        decimal("1E+3", "1E+3", "1000", "1E+3");
        decimal("-1E+4", "-1E+4", "-10000", "-10E+3");
        decimal("123E+4", "1.23E+6", "1230000", "1.23E+6");
        decimal("1234E+4", "1.234E+7", "12340000", "12.34E+6");
        decimal("12345E+4", "1.2345E+8", "123450000", "123.45E+6");
        decimal("0E+1", "0E+1", "0", "0.00E+3");
        decimal("0E+2", "0E+2", "0", "0.0E+3");
        decimal("0E+3", "0E+3", "0", "0E+3");
        decimal("0E-6", "0.000000");
        decimal("0E-7", "0E-7", "0.0000000", "0.0E-6");
        decimal("0E-8", "0E-8", "0.00000000", "0.00E-6");
        decimal("0E-9", "0E-9", "0.000000000", "0E-9");
        decimal("1E+10000", "1E+10000", "1" + zeros(10000), "10E+9999");
        decimal("-1E-10000", "-1E-10000", "-0." + zeros(9999) + "1", "-100E-10002");
        String nines = House.ten(1000).subtract(BigInteger.ONE).toString();
        decimal("-" + nines + "E+10000", "-9." + nines.substring(1) + "E+10999", "-" + nines + zeros(10000),
                "-99." + nines.substring(2) + "E+10998");
        decimal(nines + "E-500", nines.substring(500) + "." + nines.substring(500));
    }

    private static void wide(double x, String text, String hexadecimal) {
        House h = new House();
        h.x.put(2, 1, Double.doubleToRawLongBits(x));
        House.due("short text", h.printed(2, 1, 0), text);
        House.due("hexadecimal text", h.printed(2, 1, 1), hexadecimal);
    }

    private static void narrow(float x, String text, String hexadecimal) {
        House h = new House();
        h.x.put(3, 1, Float.floatToRawIntBits(x) & 0xffffffffL);
        House.due("narrow short text", h.printed(3, 1, 0), text);
        House.due("narrow hexadecimal text", h.printed(3, 1, 1), hexadecimal);
    }

    private static void floats() {
        wide(Double.NaN, "NaN", "NaN");
        wide(Double.longBitsToDouble(0xfff8000000000001L), "NaN", "NaN");
        wide(Double.NEGATIVE_INFINITY, "-Infinity", "-Infinity");
        wide(Double.POSITIVE_INFINITY, "Infinity", "Infinity");
        wide(-0.0, "-0.0", "-0x0.0p0");
        wide(0.0, "0.0", "0x0.0p0");
        wide(1.0, "1.0", "0x1.0p0");
        wide(-100.0, "-100.0", "-0x1.9p6");
        wide(0.001, "0.001", "0x1.0624dd2f1a9fcp-10");
        wide(9.999999999999999E-4, "9.999999999999998E-4", "0x1.0624dd2f1a9fbp-10");
        wide(9999999.0, "9999999.0", "0x1.312cfep23");
        wide(9999999.999999998, "9999999.999999998", "0x1.312cfffffffffp23");
        wide(1.0E7, "1.0E7", "0x1.312dp23");
        wide(12345678.0, "1.2345678E7", "0x1.78c29cp23");
        wide(2e23, "2.0E23", "0x1.52d02c7e14af6p77");
        wide(2.2250738585072014E-308, "2.2250738585072014E-308", "0x1.0p-1022");
        wide(2.225073858507201E-308, "2.225073858507201E-308", "0x0.fffffffffffffp-1022");
        wide(4.9E-324, "4.9E-324", "0x0.0000000000001p-1022");
        wide(9.9E-324, "9.9E-324", "0x0.0000000000002p-1022");
        wide(1.7976931348623157E308, "1.7976931348623157E308", "0x1.fffffffffffffp1023");
        wide(9007199254740992.0, "9.007199254740992E15", "0x1.0p53");
        wide(2.0E-3, "0.002", "0x1.0624dd2f1a9fcp-9");
        wide(1234567.125, "1234567.125", "0x1.2d6872p20");
        narrow(Float.NaN, "NaN", "NaN");
        narrow(-0.0f, "-0.0", "-0x0.0p0");
        narrow(Float.NEGATIVE_INFINITY, "-Infinity", "-Infinity");
        narrow(0.1f, "0.1", "0x1.99999ap-4");
        narrow(3.4028235E38f, "3.4028235E38", "0x1.fffffep127");
        narrow(1.4E-45f, "1.4E-45", "0x0.000002p-126");
        narrow(1.17549435E-38f, "1.1754944E-38", "0x1.0p-126");
        narrow(1.0E10f, "1.0E10", "0x1.2a05f2p33");
        narrow(16777216f, "1.6777216E7", "0x1.0p24");
        narrow(0.001f, "0.001", "0x1.0624dep-10");
    }

    private static void wrongCalls() {
        House h = new House();
        h.x.put(0, 1, 77);
        h.x.print(0, 1, 10);
        int[][] calls = {{-1, 0, 10}, {4, 0, 0}, {0, 10, 10}, {0, -1, 10}, {0, 0, 1}, {0, 0, 37}, {1, 0, -1}, {1, 0, 3},
            {1, 10, 0}, {2, 0, -1}, {2, 0, 2}, {3, 0, 2}, {3, 10, 0}};
        for (int[] call : calls) {
            h.refuses("print " + call[0] + " " + call[1] + " " + call[2], House.ILLEGAL_ARGUMENT,
                    () -> h.x.print(call[0], call[1], call[2]));
        }
        House.due("the paper stays", h.paper(2), "77");
        h.tape("5");
        h.x.print(0, 0, 10);
        House.due("the tape stays", h.x.wipe(), 1);
    }
}
