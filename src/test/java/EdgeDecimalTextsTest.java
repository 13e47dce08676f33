import java.math.BigDecimal;
import java.math.BigInteger;

/** The edges of the texts of decimals that the document's Terms name, read and written. */
public final class EdgeDecimalTextsTest {
    public static void main(String[] args) {
        points();
        exponents();
        numberAndScale();
        signWritten();
        styleNoughtPlain();
        styleNoughtSmall();
        styleNoughtFar();
        styleOneWhole();
        styleOneBroken();
        styleTwoDigits();
        styleTwoPowers();
        styleTwoZero();
        House.end();
    }

    private static String zeros(int n) {
        return new String(new char[n]).replace('\0', '0');
    }

    private static void reads(String text, String want) {
        House h = new House();
        House.due("read " + text, h.reads(1, 1, 10, text), true);
        House.due(text + " is", h.getDecimal(1).unscaledValue() + " " + h.x.told(1, 1, 1), want);
        House.due("the tape is used up", h.x.wipe(), 0);
    }

    private static void readsNot(String... texts) {
        for (String text : texts) {
            Twins.answers("read " + text, 0, Twins.withTape(text), x -> x.read(1, 1, 10) ? 1 : 0);
        }
    }

    private static void points() {
        House.sentence("TEXTS: read, perhaps, a sign, + or -, then digits, perhaps with a point before, between or behind them (one digit at least)");
        reads("7", "7 0");
        reads("+7", "7 0");
        reads("-7", "-7 0");
        reads(".7", "7 1");
        reads("7.", "7 0");
        reads("-.7", "-7 1");
        reads("+7.", "7 0");
        reads("1.7", "17 1");
        reads("0.", "0 0");
        reads(".0", "0 1");
        reads("-.0e1", "0 0");
        reads("7.e1", "7 -1");
        readsNot("", "+", "-", ".", "+.", "-.", "e1", ".e1", "-.e1", "++7", "--7", "+-7", "7+", "7-", "..7", ".7.", "7..", "1.7.", "1.7.1",
                " 7", "7 ", "\n7", "7\0", "7,5", "a", "7a", "7f", "7d", "7.5D", "0x7", "NaN", "Infinity", "7_0", "/", ":", "7/", "7:", "\u00b7");
    }

    private static void exponents() {
        House.sentence("perhaps e or E, perhaps a sign, and one to ten digits");
        reads("7e1", "7 -1");
        reads("7E1", "7 -1");
        reads("7e+1", "7 -1");
        reads("7E-1", "7 1");
        reads("7e0", "7 0");
        reads("7e-0", "7 0");
        reads("7e0000000001", "7 -1");
        reads("7e+0000000001", "7 -1");
        reads("7e-0000000001", "7 1");
        reads("7e0000010000", "7 -10000");
        readsNot("7e", "7E", "7e+", "7e-", "7e00000000001", "7e-00000000001", "7e+00000000000", "7e99999999999", "7e++1", "7e+-1", "7e1+", "7e1.", "7e.1",
                "7e1.0", "7e 1", "7e1 ", "7e1e1", "7ee1", "7e1f", "7ea", "7f1", "7d1", "7e1a", "7p1");
        for (String text : new String[] {"7e9999999999", "7e-9999999999", "7e+9999999999", "0e9999999999", "7e10001", "7e-10001"}) {
            Twins.refuses("ten digits: " + text, House.ARITHMETIC, Twins.withTape(text), x -> x.read(1, 1, 10));
        }
    }

    private static void numberAndScale() {
        House.sentence("the number is that of the digits, with the sign, the scale how many of them stand behind the point, less what stands behind e");
        reads("-001.230", "-1230 3");
        reads("1.230e3", "1230 0");
        reads("1.230e4", "1230 -1");
        reads("1.230e2", "1230 1");
        reads("1.230e-2", "1230 5");
        reads("1230e-3", "1230 3");
        reads("-0.00", "0 2");
        reads("0e5", "0 -5");
        reads("00.00e5", "0 -3");
        reads("1." + zeros(999), House.ten(999) + " 999");
        reads("." + zeros(4000) + "1", "1 4001");
        reads("." + zeros(4000) + "1e4001", "1 0");
        reads("1." + "e10000", "1 -10000");
        reads(".1e10001", "1 -10000");
        reads(".1e-9999", "1 10000");
    }

    private static void written(int style, String text, String want) {
        House h = new House();
        h.setDecimal(1, new BigDecimal(text));
        House.due(text + " in style " + style, h.printed(1, 1, style), want);
        if (!text.startsWith("-") && !h.getDecimal(1).unscaledValue().equals(BigInteger.ZERO)) {
            h.setDecimal(1, new BigDecimal("-" + text));
            House.due("-" + text + " in style " + style, h.printed(1, 1, style), "-" + want);
        }
    }

    private static void signWritten() {
        House.sentence("Written it has the digits of its number, and - before all if it is below 0.");
        House h = new House();
        for (String text : new String[] {"-0", "-0.00", "-0e5", "-0e-9"}) {
            h.reads(1, 1, 10, text);
            for (int style = 0; style < 3; style++) {
                House.due("no sign of 0", h.printed(1, 1, style).startsWith("-"), false);
            }
        }
        for (int style = 0; style < 3; style++) {
            written(style, "7", "7");
            written(style, "0.7", "0.7");
            written(style, "7000", "7000");
        }
    }

    private static void styleNoughtPlain() {
        House.sentence("Style 0: with s = 0 the digits");
        written(0, "0", "0");
        written(0, "5", "5");
        written(0, "1234567890", "1234567890");
        String nines = House.ten(1000).subtract(BigInteger.ONE).toString();
        written(0, nines, nines);
        written(2, nines, nines);
        written(2, "1000", "1000");
    }

    private static void styleNoughtSmall() {
        House.sentence("with s above 0 and a not below -6 the digits with a point before the last s of them, with zeros before them so that there is one digit before the point at least");
        for (int style = 0; style <= 2; style += 2) {
            written(style, "0.1", "0.1");
            written(style, "1.0", "1.0");
            written(style, "12.34", "12.34");
            written(style, "0.1234", "0.1234");
            written(style, "0.01234", "0.01234");
            written(style, "0.000001", "0.000001");
            written(style, "0.0000012", "0.0000012");
            written(style, "0.00000123", "0.00000123");
            written(style, "0E-1", "0.0");
            written(style, "0E-6", "0.000000");
            written(style, "1." + zeros(999), "1." + zeros(999));
            written(style, "0.1" + zeros(999), "0.1" + zeros(999));
        }
        written(0, "0.0000001", "1E-7");
        written(0, "0.00000012", "1.2E-7");
        written(0, "0E-7", "0E-7");
        written(2, "0.0000001", "100E-9");
        written(2, "0E-7", "0.0E-6");
    }

    private static void styleNoughtFar() {
        House.sentence("otherwise the first digit, and if there are others a point and these, then E, + or - and the digits of a");
        written(0, "1E+1", "1E+1");
        written(0, "10E+1", "1.0E+2");
        written(0, "12E+1", "1.2E+2");
        written(0, "123E+1", "1.23E+3");
        written(0, "0E+1", "0E+1");
        written(0, "0E+9", "0E+9");
        written(0, "0E+10", "0E+10");
        written(0, "0E-7", "0E-7");
        written(0, "12E-8", "1.2E-7");
        written(0, "100E-9", "1.00E-7");
        written(0, "1E-9", "1E-9");
        written(0, "1E-10", "1E-10");
        written(0, "1E+99", "1E+99");
        written(0, "1E+100", "1E+100");
        written(0, "1E+9999", "1E+9999");
        written(0, "1E+10000", "1E+10000");
        written(0, "1E-10000", "1E-10000");
        written(0, "0E+10000", "0E+10000");
        written(0, "0E-10000", "0E-10000");
        String nines = House.ten(1000).subtract(BigInteger.ONE).toString();
        written(0, nines + "E+10000", "9." + nines.substring(1) + "E+10999");
        written(0, nines + "E-10000", "9." + nines.substring(1) + "E-9001");
    }

    private static void styleOneWhole() {
        House.sentence("Style 1: with s not above 0 the digits and -s zeros (for the number 0 one 0 alone)");
        written(1, "0", "0");
        written(1, "0E+1", "0");
        written(1, "0E+10000", "0");
        written(1, "7", "7");
        written(1, "7E+1", "70");
        written(1, "70E+2", "7000");
        written(1, "7E+10000", "7" + zeros(10000));
    }

    private static void styleOneBroken() {
        House.sentence("otherwise the digits with a point before the last s, as above");
        written(1, "0.7", "0.7");
        written(1, "7.0", "7.0");
        written(1, "0E-1", "0.0");
        written(1, "0E-7", "0.0000000");
        written(1, "1E-7", "0.0000001");
        written(1, "12E-8", "0.00000012");
        written(1, "0E-10000", "0." + zeros(10000));
        written(1, "7E-10000", "0." + zeros(9999) + "7");
        String nines = House.ten(1000).subtract(BigInteger.ONE).toString();
        written(1, nines + "E-999", "9." + nines.substring(1));
        written(1, nines + "E-1000", "0." + nines);
        written(1, nines + "E-10000", "0." + zeros(9000) + nines);
    }

    private static void styleTwoDigits() {
        House.sentence("the first a - b + 1 digits, with zeros behind them if there are not so many, then a point and the other digits, if there are any");
        written(2, "1E+3", "1E+3");
        written(2, "1E+4", "10E+3");
        written(2, "1E+5", "100E+3");
        written(2, "1E+6", "1E+6");
        written(2, "12E+3", "12E+3");
        written(2, "12E+4", "120E+3");
        written(2, "12E+5", "1.2E+6");
        written(2, "123E+3", "123E+3");
        written(2, "123E+4", "1.23E+6");
        written(2, "123E+5", "12.3E+6");
        written(2, "1234E+3", "1.234E+6");
        written(2, "1234E+4", "12.34E+6");
        written(2, "1234E+5", "123.4E+6");
        written(2, "1E-7", "100E-9");
        written(2, "1E-8", "10E-9");
        written(2, "1E-9", "1E-9");
        written(2, "1E-10", "100E-12");
        written(2, "12E-8", "120E-9");
        written(2, "12E-9", "12E-9");
        written(2, "123E-9", "123E-9");
        written(2, "1234E-10", "123.4E-9");
        written(2, "12345E-12", "12.345E-9");
    }

    private static void styleTwoPowers() {
        House.sentence("let b be the greatest multiple of 3 that is not above a");
        written(2, "1E+1", "10");
        written(2, "1E+2", "100");
        written(2, "10E+1", "100");
        written(2, "12E+1", "120");
        written(2, "1E+3", "1E+3");
        written(2, "100E+1", "1.00E+3");
        written(2, "1E+9999", "1E+9999");
        written(2, "1E+10000", "10E+9999");
        written(2, "1E-10000", "100E-10002");
        written(2, "1E-9999", "1E-9999");
        written(2, "1E-9998", "10E-9999");
        String nines = House.ten(1000).subtract(BigInteger.ONE).toString();
        written(2, nines + "E+10000", "99." + nines.substring(2) + "E+10998");
    }

    private static void styleTwoZero() {
        House.sentence("For the number 0 let b be the least multiple of 3 that is not below a: 0, with b - a zeros behind a point if that is above 0; then, unless b is 0, E and so on.");
        written(2, "0E+1", "0.00E+3");
        written(2, "0E+2", "0.0E+3");
        written(2, "0E+3", "0E+3");
        written(2, "0E+4", "0.00E+6");
        written(2, "0", "0");
        written(2, "0E-1", "0.0");
        written(2, "0E-6", "0.000000");
        written(2, "0E-7", "0.0E-6");
        written(2, "0E-8", "0.00E-6");
        written(2, "0E-9", "0E-9");
        written(2, "0E-10", "0.0E-9");
        written(2, "0E+9999", "0E+9999");
        written(2, "0E+10000", "0.00E+10002");
        written(2, "0E-9999", "0E-9999");
        written(2, "0E-10000", "0.0E-9999");
    }
}
