import java.math.BigDecimal;
import java.math.BigInteger;

/** Promise 16: convert. */
public final class Promise16Test {
    private static final long NAN = 0x7ff8000000000000L;
    private static final long INFINITE = 0x7ff0000000000000L;

    public static void main(String[] args) {
        toWholes();
        toDecimals();
        toFloats();
        amongFloats();
        wrongCalls();
        House.end();
    }

    private static void decimalToWhole(String from, String want) {
        House h = new House();
        h.setDecimal(1, new BigDecimal(from));
        if (want == null) {
            h.refuses("whole from " + from, House.ARITHMETIC, () -> h.x.convert(1, 1, 0, 2));
            return;
        }
        h.x.convert(1, 1, 0, 2);
        House.due("whole from " + from, h.getWhole(2), want);
    }

    private static void wideToWhole(double from, String want) {
        House h = new House();
        h.x.put(2, 1, Double.doubleToRawLongBits(from));
        h.x.convert(2, 1, 0, 2);
        House.due("whole from " + from, h.getWhole(2), want);
    }

    private static void toWholes() {
        House h = new House();
        h.setWhole(1, House.two(2047).negate());
        h.x.convert(0, 1, 0, 2);
        House.due("whole from a whole", h.getWhole(2), House.two(2047).negate());
        decimalToWhole("-12.99", "-12");
        decimalToWhole("0.99", "0");
        decimalToWhole("-0.99", "0");
        decimalToWhole("12E+3", "12000");
        decimalToWhole("0E+10000", "0");
        decimalToWhole("0E-10000", "0");
        decimalToWhole("9E-10000", "0");
        decimalToWhole("1E+10000", null);
        decimalToWhole("-1E+617", null);
        decimalToWhole("1E+616", House.ten(616).toString());
        BigInteger most = House.two(2048).subtract(BigInteger.ONE);
        decimalToWhole(most + ".9", most.toString());
        decimalToWhole("-" + most + ".9", "-" + most);
        decimalToWhole(House.two(2048).toString(), null);
        decimalToWhole(House.two(2048).negate() + ".0", null);
        wideToWhole(-2.9, "-2");
        wideToWhole(0.5, "0");
        wideToWhole(-0.0, "0");
        wideToWhole(Double.MIN_VALUE, "0");
        wideToWhole(1e22, "10000000000000000000000");
        wideToWhole(-Double.MAX_VALUE, new BigDecimal(-Double.MAX_VALUE).toBigInteger().toString());
        h.x.put(3, 1, Float.floatToRawIntBits(-16777217.5f) & 0xffffffffL);
        h.x.convert(3, 1, 0, 2);
        House.due("whole from a narrow one", h.getWhole(2), "-16777218");
    }

    private static void floatToDecimal(int kind, long bits, String number, int scale) {
        House h = new House();
        h.x.put(kind, 1, bits);
        h.x.convert(kind, 1, 1, 2);
        House.due("decimal from " + bits, h.getDecimal(2).unscaledValue(), number);
        House.due("scale from " + bits, h.x.told(1, 2, 1), scale);
    }

    private static void toDecimals() {
        House h = new House();
        h.setDecimal(1, new BigDecimal("-1.500E-9000"));
        h.x.convert(1, 1, 1, 2);
        House.due("just that decimal", h.printed(1, 2, 0), "-1.500E-9000");
        h.setDecimal(1, new BigDecimal("15E+20"));
        h.x.convert(1, 1, 1, 2);
        House.due("a scale below 0 stays", h.x.told(1, 2, 1), -20);
        h.setWhole(1, House.ten(20).negate());
        h.x.convert(0, 1, 1, 2);
        House.due("decimal from a whole", h.getDecimal(2).unscaledValue() + " " + h.x.told(1, 2, 1), House.ten(20).negate() + " 0");
        floatToDecimal(2, 0, "0", 0);
        floatToDecimal(2, Long.MIN_VALUE, "0", 0);
        floatToDecimal(2, Double.doubleToRawLongBits(-0.75), "-75", 2);
        floatToDecimal(2, Double.doubleToRawLongBits(1000.0), "1000", 0);
        floatToDecimal(2, Double.doubleToRawLongBits(1000.5), "10005", 1);
        floatToDecimal(2, Double.doubleToRawLongBits(Double.MAX_VALUE), new BigDecimal(Double.MAX_VALUE).toString(), 0);
        floatToDecimal(2, 1, BigInteger.valueOf(5).pow(1074).toString(), 1074);
        floatToDecimal(2, 6, BigInteger.valueOf(5).pow(1073).multiply(BigInteger.valueOf(3)).toString(), 1073);
        floatToDecimal(3, 1, BigInteger.valueOf(5).pow(149).toString(), 149);
        floatToDecimal(3, Float.floatToRawIntBits(-0.5f) & 0xffffffffL, "-5", 1);
    }

    private static void toFloat(String from, double wide, float narrow) {
        House h = new House();
        h.setDecimal(1, new BigDecimal(from));
        h.x.convert(1, 1, 2, 2);
        h.x.convert(1, 1, 3, 2);
        House.due("wide from " + from, h.x.told(2, 2, 0), Double.doubleToRawLongBits(wide));
        House.due("narrow from " + from, h.x.told(3, 2, 0), Float.floatToRawIntBits(narrow) & 0xffffffffL);
    }

    private static void toFloats() {
        toFloat("0.1", 0.1, 0.1f);
        toFloat("0E-5", 0.0, 0.0f);
        toFloat("-1E-10000", -0.0, -0.0f);
        toFloat("-9E+10000", Double.NEGATIVE_INFINITY, Float.NEGATIVE_INFINITY);
        toFloat("9007199254740993", 9007199254740992.0, 9007199254740992.0f);
        toFloat("9007199254740993." + new String(new char[980]).replace('\0', '0') + "1", 9007199254740994.0, 9007199254740992.0f);
        toFloat("1" + new String(new char[999]).replace('\0', '0') + "E-999", 1.0, 1.0f);
        toFloat("3.5E+38", 3.5e38, Float.POSITIVE_INFINITY);
        House h = new House();
        h.setWhole(1, House.two(1024).subtract(House.two(970)));
        h.x.convert(0, 1, 2, 1);
        House.due("wide from too great a whole", h.x.told(2, 1, 0), INFINITE);
        h.setWhole(1, House.two(1024).subtract(House.two(970)).subtract(BigInteger.ONE).negate());
        h.x.convert(0, 1, 2, 1);
        House.due("wide from the greatest", h.x.told(2, 1, 0), Double.doubleToRawLongBits(-Double.MAX_VALUE));
        h.setWhole(1, House.two(2048).subtract(BigInteger.ONE).negate());
        h.x.convert(0, 1, 3, 1);
        House.due("narrow from the least", h.x.told(3, 1, 0), 0xff800000L);
        h.x.convert(0, 0, 2, 1);
        House.due("wide from 0", h.x.told(2, 1, 0), 0);
        h.x.put(0, 1, 16777217);
        h.x.convert(0, 1, 3, 1);
        House.due("narrow to the even one", h.x.told(3, 1, 0), Float.floatToRawIntBits(16777216f));
        h.x.put(0, 1, 16777219);
        h.x.convert(0, 1, 3, 1);
        House.due("narrow to the even one above", h.x.told(3, 1, 0), Float.floatToRawIntBits(16777220f));
    }

    private static void between(int kind, long bits, long want) {
        House h = new House();
        h.x.put(kind, 1, bits);
        h.x.convert(kind, 1, 5 - kind, 2);
        House.due("the other from " + Long.toHexString(bits), h.x.told(5 - kind, 2, 0), want);
        h.x.convert(kind, 1, kind, 3);
        House.due("the same from " + Long.toHexString(bits), h.x.told(kind, 3, 0), bits);
    }

    private static void amongFloats() {
        between(2, 0, 0);
        between(2, Long.MIN_VALUE, 0x80000000L);
        between(3, 0x80000000L, Long.MIN_VALUE);
        between(2, INFINITE, 0x7f800000L);
        between(2, INFINITE | Long.MIN_VALUE, 0xff800000L);
        between(3, 0xff800000L, INFINITE | Long.MIN_VALUE);
        between(2, NAN, 0x7fc00000L);
        between(2, 0xfff0000000000001L, 0x7fc00000L);
        between(3, 0xff800001L, NAN);
        between(2, Double.doubleToRawLongBits(0.1), Float.floatToRawIntBits(0.1f));
        between(2, Double.doubleToRawLongBits(-1e300), 0xff800000L);
        between(2, Double.doubleToRawLongBits(-1e-300), 0x80000000L);
        between(2, 1, 0);
        between(2, Double.doubleToRawLongBits(1 + 0x1p-24), Float.floatToRawIntBits(1.0f));
        between(2, Double.doubleToRawLongBits(1 + 3 * 0x1p-24), Float.floatToRawIntBits(1 + 0x1p-22f));
        between(2, Double.doubleToRawLongBits(1 + 0x1p-24 + 0x1p-52), Float.floatToRawIntBits(1 + 0x1p-23f));
        between(2, Double.doubleToRawLongBits(0x1p-150), 0);
        between(2, Double.doubleToRawLongBits(0x1.8p-149), 2);
        between(2, Double.doubleToRawLongBits(0x1.ffffffp127), 0x7f800000L);
        between(2, Double.doubleToRawLongBits(0x1.fffffefffffffp127), 0x7f7fffffL);
        between(3, 1, Double.doubleToRawLongBits(Float.MIN_VALUE));
        between(3, Float.floatToRawIntBits(0.1f), Double.doubleToRawLongBits(0.1f));
    }

    private static void wrongCalls() {
        House h = new House();
        long[] notFinite = {INFINITE, INFINITE | Long.MIN_VALUE, NAN};
        for (long bits : notFinite) {
            h.x.put(2, 1, bits);
            h.refuses("a whole from what is not finite", House.ARITHMETIC, () -> h.x.convert(2, 1, 0, 2));
            h.refuses("a decimal from what is not finite", House.ARITHMETIC, () -> h.x.convert(2, 1, 1, 2));
        }
        h.x.put(3, 1, 0x7f800000L);
        h.refuses("a whole from narrow infinity", House.ARITHMETIC, () -> h.x.convert(3, 1, 0, 2));
        h.refuses("a decimal from narrow infinity", House.ARITHMETIC, () -> h.x.convert(3, 1, 1, 2));
        int[][] calls = {{-1, 0, 0, 0}, {4, 0, 0, 0}, {0, 10, 0, 0}, {0, 0, -1, 0}, {0, 0, 4, 0}, {0, 0, 0, 10}, {2, 1, 0, 10}};
        for (int[] call : calls) {
            h.refuses("convert " + call[0] + " " + call[1] + " " + call[2] + " " + call[3], House.ILLEGAL_ARGUMENT,
                    () -> h.x.convert(call[0], call[1], call[2], call[3]));
        }
    }
}
