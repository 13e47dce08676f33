import java.math.BigDecimal;

/** The edges of how a format prints decimals, signs and widths, as the document's Terms name them. */
public final class EdgeFormatNumbersTest {
    public static void main(String[] args) {
        fixed();
        fixedPoint();
        exponent();
        exponentTen();
        generalPrecision();
        generalLow();
        generalHigh();
        generalFar();
        generalZero();
        nothing();
        commas();
        below();
        notBelow();
        zeros();
        blanks();
        largeLetters();
        House.end();
    }

    private static BigDecimal dec(String text) {
        return new BigDecimal(text);
    }

    private static void prints(String format, String want, String value) {
        Formats.prints(format, want, dec(value));
    }

    private static String times(char c, int n) {
        return new String(new char[n]).replace('\0', c);
    }

    private static void fixed() {
        House.sentence("f: a decimal, rounded to as many digits behind the point as the precision says (6 without one): to the nearest, of two as near the one farther from 0");
        prints("%f", "0.000000", "0");
        prints("%f", "1.234567", "1.234567");
        prints("%f", "1.234568", "1.2345675");
        prints("%f", "1.234567", "1.2345674999");
        prints("%f", "-1.234568", "-1.2345675");
        prints("%f", "0.000001", "0.0000005");
        prints("%f", "0.000000", "0.00000049999");
        prints("%.1f", "0.1", "0.05");
        prints("%.1f", "0.0", "0.04999");
        prints("%.1f", "0.2", "0.15");
        prints("%.1f", "1.0", "0.95");
        prints("%.0f", "1", "0.5");
        prints("%.0f", "0", "0.4999");
        prints("%.0f", "3", "2.5");
        prints("%.0f", "-3", "-2.5");
        prints("%.0f", "10", "9.5");
        prints("%.0f", "100", "99.5");
        prints("%.2f", "9223372036854775807.00", "9223372036854775807");
        prints("%.40f", "-0." + times('0', 39) + "1", "-1E-40");
        prints("%.39f", "-0." + times('0', 39), "-1E-40");
        prints("%.39f", "-0." + times('0', 38) + "1", "-5E-40");
        prints("%.41f", "-0." + times('0', 39) + "10", "-1E-40");
    }

    private static void fixedPoint() {
        House.sentence("without point if there are none, but with it with the flag #");
        prints("%.0f", "7", "7");
        prints("%#.0f", "7.", "7");
        prints("%#.0f", "8.", "7.5");
        prints("%#.1f", "7.0", "7");
        prints("%#f", "7.000000", "7");
        prints("%.0e", "7e+00", "7");
        prints("%#.0e", "7.e+00", "7");
        prints("%#.1e", "7.0e+00", "7");
        prints("%#05.0f", "0007.", "7");
    }

    private static void exponent() {
        House.sentence("e E: a decimal with one digit, not 0 (but 0 for 0), before the point, as many behind it as the precision says (6 without one; the point as with f)");
        prints("%e", "0.000000e+00", "0");
        prints("%e", "0.000000e+00", "0.000");
        prints("%.0e", "0e+00", "0.00");
        prints("%#.0e", "0.e+00", "0.00");
        prints("%e", "7.000000e+00", "7");
        prints("%E", "-7.000000E+00", "-7");
        prints("%.2e", "7.00e-01", "0.7");
        prints("%.2e", "7.00e-02", "0.07");
        prints("%.2e", "7.00e+01", "70");
        prints("%.2e", "1.00e-40", "1E-40");
        prints("%.18e", "9.223372036854775807e+18", "9223372036854775807");
        prints("%.19e", "9.2233720368547758070e+18", "9223372036854775807");
        prints("%.17e", "9.22337203685477581e+18", "9223372036854775807");
        prints("%.1e", "1.0e+09", "1000000000");
        prints("%.1e", "1.0e+10", "10000000000");
    }

    private static void exponentTen() {
        House.sentence("rounded so (to one more before, if that makes ten), then e, + or -, and the exponent in two digits or more");
        prints("%.0e", "9e+00", "9.4999");
        prints("%.0e", "1e+01", "9.5");
        prints("%.0e", "-1e+01", "-9.5");
        prints("%.1e", "9.9e+00", "9.94");
        prints("%.1e", "1.0e+01", "9.95");
        prints("%.1e", "1.0e+00", "0.995");
        prints("%.1e", "1.0e-09", "0.000000000995");
        prints("%.0e", "1e-38", "0." + times('0', 38) + "95");
        prints("%.6e", "1.000000e+01", "9.9999995");
        prints("%.6e", "9.999999e+00", "9.99999949");
        prints("%.0e", "2e+00", "1.5");
        prints("%.0e", "3e+00", "2.5");
        prints("%.0e", "1e+18", "950000000000000000");
        prints("%.0e", "9e+18", "9223372036854775807");
    }

    private static void generalPrecision() {
        House.sentence("g G: with the precision p (6 without one, 1 for 0): the decimal is rounded so to p digits, from its first one that is not 0 on");
        prints("%g", "1.23457", "1.234567");
        prints("%g", "1.23456", "1.2345649");
        prints("%g", "1.23457", "1.234565");
        prints("%.0g", "2", "1.5");
        prints("%.1g", "2", "1.5");
        prints("%.0g", "1", "1.49");
        prints("%.2g", "1.5", "1.5");
        prints("%.3g", "1.50", "1.5");
        prints("%.3g", "0.00150", "0.0015");
        prints("%.1g", "0.003", "0.0025");
        prints("%.20g", "9223372036854775807.0", "9223372036854775807");
        prints("%.19g", "9223372036854775807", "9223372036854775807");
        prints("%.18g", "9.22337203685477581e+18", "9223372036854775807");
        prints("%G", "-1.23457E-05", "-0.0000123456789");
    }

    private static void generalLow() {
        House.sentence("if what comes of that is 0, or not below 0.0001 and below 10 to the p in size, this is printed as with f, with so many digits behind the point that there are p in all, from its first one that is not 0 on");
        prints("%g", "0.000100000", "0.0001");
        prints("%g", "9.99999e-05", "0.0000999999");
        prints("%g", "0.000100000", "0.00009999995");
        prints("%g", "9.99999e-05", "0.00009999994");
        prints("%.1g", "0.0001", "0.0001");
        prints("%.1g", "0.0001", "0.000095");
        prints("%.1g", "9e-05", "0.0000949");
        prints("%.3g", "0.000100", "0.00009995");
        prints("%.3g", "9.99e-05", "0.000099949");
        prints("%.3g", "-0.000100", "-0.0001");
        prints("%.3g", "-9.90e-05", "-0.000099");
        prints("%.3g", "0.00123", "0.001234");
        prints("%.3g", "0.0123", "0.01234");
        prints("%.3g", "0.123", "0.1234");
        prints("%.3g", "1.23", "1.234");
        prints("%.3g", "12.3", "12.34");
    }

    private static void generalHigh() {
        House.sentence("below 10 to the p in size");
        prints("%g", "999999", "999999");
        prints("%g", "999999", "999999.4999");
        prints("%g", "1.00000e+06", "999999.5");
        prints("%g", "1.00000e+06", "1000000");
        prints("%g", "-999999", "-999999");
        prints("%g", "-1.00000e+06", "-1000000");
        prints("%.1g", "9", "9");
        prints("%.1g", "9", "9.4");
        prints("%.1g", "1e+01", "9.5");
        prints("%.1g", "1e+01", "10");
        prints("%.0g", "9", "9");
        prints("%.0g", "1e+01", "10");
        prints("%.3g", "123", "123.4");
        prints("%.3g", "999", "999.4");
        prints("%.3g", "1.00e+03", "999.5");
        prints("%.3g", "1.23e+03", "1234");
        prints("%.4g", "1234", "1234");
    }

    private static void generalFar() {
        House.sentence("otherwise as with e and the precision p - 1");
        prints("%g", "1.23457e+06", "1234567");
        prints("%.7g", "1234567", "1234567");
        prints("%.1g", "1e+06", "1234567");
        prints("%.0g", "1e+06", "1234567");
        prints("%.2g", "1.2e-05", "0.0000123");
        prints("%.1g", "1e-05", "0.0000123");
        prints("%.3G", "-1.00E-40", "-1E-40");
        prints("%.1g", "1e+18", "950000000000000000");
    }

    private static void generalZero() {
        House.sentence("(p - 1 behind the point for 0)");
        prints("%g", "0.00000", "0");
        prints("%g", "0.00000", "0.000");
        prints("%.1g", "0", "0");
        prints("%.0g", "0", "0.0000");
        prints("%.2g", "0.0", "0");
        prints("%.10g", "0.000000000", "0");
        prints("%+.2G", "+0.0", "0");
    }

    private static void nothing() {
        House.sentence("Nothing is null with all of d o x X f e E g G.");
        for (String conversion : new String[] {"d", "o", "x", "X", "f", "e", "E", "g", "G"}) {
            boolean large = conversion.equals(conversion.toUpperCase());
            String text = large ? "NULL" : "null";
            Formats.prints("%" + conversion, text, (Object) null);
            Formats.prints("%4" + conversion, text, (Object) null);
            Formats.prints("%5" + conversion, " " + text, (Object) null);
            Formats.prints("%-5" + conversion + "|", text + " |", (Object) null);
            Formats.prints("%05" + conversion, " " + text, (Object) null);
        }
        for (String conversion : new String[] {"d", "f", "e", "E", "g", "G"}) {
            String text = conversion.equals(conversion.toUpperCase()) ? "NULL" : "null";
            Formats.prints("%+" + conversion, text, (Object) null);
            Formats.prints("% " + conversion, text, (Object) null);
            Formats.prints("%(" + conversion, text, (Object) null);
            Formats.prints("%+(08" + conversion, "    " + text, (Object) null);
        }
        Formats.prints("%.2f|%,f|%,d|%#x|%.9e", "null|null|null|null|null", null, null, null, null, null);
    }

    private static void commas() {
        House.sentence("Numbers of d f e E g G: with the flag , the digits before the point have a comma between each three, from the last on.");
        long[] values = {0, 7, 12, 123, 999, 1000, 1234, 12345, 123456, 999999, 1000000, 1234567, Long.MAX_VALUE, -1, -123, -1234, -123456, -1234567, Long.MIN_VALUE};
        String[] want = {"0", "7", "12", "123", "999", "1,000", "1,234", "12,345", "123,456", "999,999", "1,000,000", "1,234,567", "9,223,372,036,854,775,807",
            "-1", "-123", "-1,234", "-123,456", "-1,234,567", "-9,223,372,036,854,775,808"};
        for (int i = 0; i < values.length; i++) {
            Formats.prints("%,d", want[i], values[i]);
            Formats.prints("%,.0f", want[i], BigDecimal.valueOf(values[i]));
            Formats.prints("%,.4f", want[i] + ".0000", BigDecimal.valueOf(values[i]));
            Formats.prints("%,.25g", want[i] + "." + times('0', values[i] == 0 ? 24 : 25 - want[i].replaceAll("[-,]", "").length()), BigDecimal.valueOf(values[i]));
        }
        prints("%,.0f", "1,000", "999.5");
        prints("%,.3f", "0.123", "0.1234");
        prints("%,.3g", "1.00e+03", "1000");
        Formats.prints("%,08d|%,08d|%,9d|%-,9d|", "0001,234|1,234,567|1,234,567|1,234    |", 1234, 1234567, 1234567, 1234);
        Formats.prints("%(,010d|%+,010d", "(0001,234)|+00001,234", -1234, 1234);
    }

    private static void below() {
        House.sentence("What is below 0 (also if it is rounded to 0) has - before it, or with the flag ( stands in brackets");
        Formats.prints("%d|%(d|%+d|% d|%+(d|% (d", "-7|(7)|-7|-7|(7)|(7)", -7, -7, -7, -7, -7, -7);
        for (String format : new String[] {"%.1f", "%.0f", "%.2f"}) {
            String zero = format.equals("%.0f") ? "0" : format.equals("%.1f") ? "0.0" : "0.00";
            prints(format, "-" + zero, "-0.001");
            prints(format.replace("%", "%("), "(" + zero + ")", "-0.001");
            prints(format.replace("%", "%+"), "-" + zero, "-0.001");
            prints(format.replace("%", "% "), "-" + zero, "-0.001");
            prints(format, zero, "0.001");
            prints(format.replace("%", "%("), zero, "0.001");
        }
        prints("%(.1e", "(1.0e-03)", "-0.001");
        prints("%(.1g", "(0.001)", "-0.001");
        prints("%(.1E", "(1.0E-03)", "-0.001");
        Formats.prints("%(4d|%(3d|%(-5d|%(05d", " (7)|(7)|(7)  |(007)", -7, -7, -7, -7);
    }

    private static void notBelow() {
        House.sentence("what is not has + before it with the flag +, a blank with the blank");
        Formats.prints("%+d|% d|%(d|%+(d|% (d", "+0| 0|0|+0| 0", 0, 0, 0, 0, 0);
        Formats.prints("%+d|% d|%(d|%+(d|% (d", "+7| 7|7|+7| 7", 7, 7, 7, 7, 7);
        prints("%+.1f", "+0.0", "0");
        prints("% .1f", " 0.0", "0.00");
        prints("%+.1e", "+0.0e+00", "0");
        prints("% .1g", " 0", "0");
        Formats.prints("%+3d|%+2d|%+1d|%-+4d|%+04d|% 04d", " +7|+7|+7|+7  |+007| 007", 7, 7, 7, 7, 7, 7);
    }

    private static void zeros() {
        House.sentence("With the flag 0 zeros stand behind sign, bracket, 0x or 0 of # and before the digits, as many as it takes to have the width in all");
        Formats.prints("%01d|%02d|%03d|%04d", "42|42|042|0042", 42, 42, 42, 42);
        Formats.prints("%01d|%02d|%03d|%04d", "-42|-42|-42|-042", -42, -42, -42, -42);
        Formats.prints("%+03d|%+04d|% 03d|% 04d", "+42|+042| 42| 042", 42, 42, 42, 42);
        Formats.prints("%(04d|%(05d|%(03d", "(42)|(042)|(42)", -42, -42, -42);
        Formats.prints("%#04x|%#05x|%#05X|%#03o|%#04o", "0x2a|0x02a|0X02A|052|0052", 42, 42, 42, 42, 42);
        Formats.prints("%03x|%03o|%016x|%017x", "02a|052|ffffffffffffffff|0ffffffffffffffff", 42, 42, -1, -1);
        prints("%04.1f", "-1.5", "-1.5");
        prints("%05.1f", "-01.5", "-1.5");
        prints("%07.1e", "1.5e+00", "1.5");
        prints("%08.1e", "01.5e+00", "1.5");
        prints("%04.2g", "01.5", "1.5");
        prints("%(06.1f", "(01.5)", "-1.5");
        prints("%,09.1f", "001,234.5", "1234.5");
        Formats.prints("%04096d", times('0', 4095) + "7", 7);
    }

    private static void blanks() {
        House.sentence("nothing and all else is widened by blanks before it, or behind it with the flag -");
        Formats.prints("%4s|%5s|%-5s|", "text| text|text |", "text", "text", "text");
        Formats.prints("%5b|%-5b|", " true|true |", true, true);
        Formats.prints("%2c|%-2c|", " x|x |", 'x', 'x');
        Formats.prints("%3d|%-3d|%4d|%-4d|", "-42|-42| -42|-42 |", -42, -42, -42, -42);
        Formats.prints("%3x|%-3x|", " 2a|2a |", 42, 42);
        prints("%5.1f|", "  1.5|", "1.5");
        prints("%-5.1f|", "1.5  |", "1.5");
        prints("%9.1e|", "  1.5e+00|", "1.5");
        prints("%-9.2g|", "1.5      |", "1.5");
        Formats.prints("%5s|%-5s|%05d|%05x|%05f", " null|null | null| null| null", null, null, null, null, null);
        Formats.prints("%2%|%-2%|", " %|% |");
        Formats.prints("%4s|%-4s|", "    |    |", "", "");
    }

    private static void largeLetters() {
        House.sentence("Last, for a large letter, small letters a .. z become large ones.");
        Formats.prints("%S", "@AZ[`AZ{\u00e0\u00ff", "@AZ[`az{\u00e0\u00ff");
        Formats.prints("%s", "@AZ[`az{\u00e0\u00ff", "@AZ[`az{\u00e0\u00ff");
        Formats.prints("%B|%C|%X|%S", "TRUE|Z|FF|NULL", 1, 'z', 255, null);
        Formats.prints("%#X", "0XFF", 255);
        prints("%E", "1.500000E+00", "1.5");
        prints("%G", "1.50000E-10", "0.00000000015");
        Formats.prints("a%Sb", "aCb", "c");
        Formats.prints("%S%s", "Ab", "a", "b");
    }
}
