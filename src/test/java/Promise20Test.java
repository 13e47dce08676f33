import java.math.BigDecimal;

/** Promise 20: format. */
public final class Promise20Test {
    public static void main(String[] args) {
        textsAndTruths();
        wholes();
        decimals();
        general();
        leastAndGreatest();
        arguments();
        faults();
        lengths();
        state();
        House.end();
    }

    private static House with(Object... arguments) {
        House h = new House();
        for (Object argument : arguments) {
            if (argument == null) {
                h.x.argument(4, 0);
            } else if (argument instanceof Boolean) {
                h.x.argument(5, (boolean) argument ? 1 : 0);
            } else if (argument instanceof Character) {
                h.x.argument(6, (char) argument);
            } else if (argument instanceof Integer || argument instanceof Long) {
                h.x.put(0, 0, ((Number) argument).longValue());
                h.x.argument(0, 0);
            } else if (argument instanceof BigDecimal) {
                h.setDecimal(0, (BigDecimal) argument);
                h.x.argument(1, 0);
            } else {
                h.tape((String) argument);
                h.x.argument(7, 0);
            }
        }
        return h;
    }

    private static BigDecimal dec(String text) {
        return new BigDecimal(text);
    }

    private static void check(String format, String want, Object... arguments) {
        House.due("format " + format + " of " + java.util.Arrays.toString(arguments), with(arguments).formatted(format), want);
    }

    private static void textsAndTruths() {
        check("", "");
        check("plain $ text", "plain $ text");
        check("100%%|%5%|%-5%|", "100%|    %|%    |");
        check("a%nb", "a\nb");
        check("%b%b%b%b%b", "falsefalsetruetruetrue", null, false, true, 0, "");
        check("%B|%.2b|%6b|%-6b|%.0b|", "TRUE|tr|  true|true  ||", true, true, true, true, true);
        check("%s|%s|%s|%s|%s|%s", "null|true|c|-12|text|-0.05", null, true, 'c', -12, "text", dec("-0.05"));
        check("%S|%S|%S", "NULL|TRUE|AZ{\u00e4", null, true, "aZ{\u00e4");
        check("%.3s|%6.2s|%-6.2s|%.0s|%.99s", "tex|    te|te    ||text", "text", "text", "text", "text", "text");
        check("%.2s|%.1s|%.4s", "nu|-|0.50", null, -12, dec("0.50"));
        check("%s|%s|%s", "0|0.000|120.5", dec("0"), dec("0.000"), dec("120.5"));
        check("%c|%C|%3c|%-3c|%c|%C", "x|X|  x|x  |null|NULL", 'x', 'x', 'x', 'x', null, null);
        check("%c%c%C", "\u00ff\0\u00e4", '\u00ff', '\0', '\u00e4');
    }

    private static void wholes() {
        check("%d|%d|%d", "0|-9223372036854775808|9223372036854775807", 0, Long.MIN_VALUE, Long.MAX_VALUE);
        check("%5d|%-5d|%05d|%+d|% d|%(d|%(d", "   42|42   |00042|+42| 42|42|(42)", 42, 42, 42, 42, 42, 42, -42);
        check("%05d|%+05d|%(06d|% 05d|%(d|%+(d", "-0042|+0042|(0042)| 0042|(42)|(42)", -42, 42, -42, 42, -42, -42);
        check("%,d|%,d|%,d|%,d", "1,234,567|123|-1,000|123,456", 1234567, 123, -1000, 123456);
        check("%0,12d|%(,15d|%-,12d|", "0001,234,567|    (1,234,567)|1,234,567   |", 1234567, -1234567, 1234567);
        check("%+d|% d", "+0| 0", 0, 0);
        check("%o|%x|%X", "17|f|F", 15, 15, 15);
        check("%o|%x|%X", "1777777777777777777777|ffffffffffffffff|FFFFFFFFFFFFFFFF", -1, -1, -1);
        check("%x|%o|%x", "8000000000000000|1000000000000000000000|0", Long.MIN_VALUE, Long.MIN_VALUE, 0);
        check("%#o|%#x|%#X|%#08x|%#08o|%8x|%-8x|", "017|0xf|0XF|0x00000f|00000017|       f|f       |", 15, 15, 15, 15, 15, 15, 15);
        check("%d|%o|%x|%X|%08d|%-8d|%+d|%(,d", "null|null|null|NULL|    null|null    |null|null",
                null, null, null, null, null, null, null, null);
    }

    private static void decimals() {
        check("%f|%f|%f", "1.500000|-0.000001|0.000000", dec("1.5"), dec("-0.0000005"), dec("0"));
        check("%.0f|%.0f|%.0f|%#.0f", "1|2|-2|2.", dec("0.5"), dec("1.5"), dec("-1.5"), dec("1.5"));
        check("%.2f|%.2f|%.2f|%.2f", "-0.00|0.01|1.00|9.99", dec("-0.001"), dec("0.005"), dec("0.995"), dec("9.994"));
        check("%,.2f|%,.0f|%(,.1f|%+.1f|% .1f", "1,234,567.89|1,000|(1,234.5)|+0.0| 0.0",
                dec("1234567.891"), dec("999.5"), dec("-1234.5"), dec("0"), dec("0"));
        check("%010.2f|%-10.2f|%10.2f|%+010.1f|%(010.1f", "-000001.50|-1.50     |     -1.50|+0000001.5|(000001.5)",
                dec("-1.5"), dec("-1.5"), dec("-1.5"), dec("1.5"), dec("-1.5"));
        check("%(.1f|%.1f", "(0.0)|-0.0", dec("-0.01"), dec("-0.01"));
        check("%.42f", "0.000000000000000000000000000000000000000300", dec("3E-40"));
        check("%.39f|%.38f", "0.000000000000000000000000000000000000001|0.00000000000000000000000000000000000000", dec("6E-40"), dec("6E-40"));
        check("%e|%e|%E|%e", "1.500000e+00|0.000000e+00|-1.234500E+03|5.000000e-07", dec("1.5"), dec("0.000"), dec("-1234.5"), dec("0.0000005"));
        check("%.0e|%.0e|%#.0e|%.2e", "2e+00|1e+01|2.e+00|1.00e+01", dec("1.5"), dec("9.5"), dec("1.5"), dec("9.996"));
        check("%.1e|%(.1e|%012.2e|%-12.1e|%+.1e", "3.0e-40|(3.0e-40)|-0001.50e+00|1.5e+00     |+1.5e+00",
                dec("3E-40"), dec("-3E-40"), dec("-1.5"), dec("1.5"), dec("1.5"));
        check("%.25e", "9.2233720368547758070000000e+18", dec("9223372036854775807"));
        check("%f|%.1e|%G|%08f|%.2f", "null|null|NULL|    null|null", null, null, null, null, null);
    }

    private static void general() {
        check("%g|%g|%g", "1.50000|0.00000|123457", dec("1.5"), dec("0.000"), dec("123457").add(dec("0.4")));
        check("%g|%g|%g|%g", "0.000100000|9.99990e-05|999999|1.00000e+06",
                dec("0.0001"), dec("0.000099999"), dec("999999"), dec("999999.5"));
        check("%.3g|%.3g|%.1g|%.0g|%.0g", "123|1.23e+03|1e+01|1e+01|5", dec("123"), dec("1234"), dec("9.5"), dec("9.5"), dec("5"));
        check("%.3g|%.3g|%.3G", "0.000100|9.99e-05|-9.99E-05", dec("0.00009999"), dec("0.00009994"), dec("-0.00009994"));
        check("%,.7g|%(g|%012g|%-12g|%+g", "123,456.7|(1.50000)|-00001.50000|1.50000     |+1.50000",
                dec("123456.7"), dec("-1.5"), dec("-1.5"), dec("1.5"), dec("1.5"));
        check("%.1g|%.5g", "0|0.0000", dec("0"), dec("0.00"));
    }

    /** The least number of 64 bits has a size that no number of 64 bits has. */
    private static void leastAndGreatest() {
        long least = Long.MIN_VALUE;
        long greatest = Long.MAX_VALUE;
        check("%d|%s|%S|%(d|%,d", "-9223372036854775808|-9223372036854775808|-9223372036854775808|(9223372036854775808)|"
                + "-9,223,372,036,854,775,808", least, least, least, least, least);
        check("%d|%s|%S|%+d|%,d", "9223372036854775807|9223372036854775807|9223372036854775807|+9223372036854775807|"
                + "9,223,372,036,854,775,807", greatest, greatest, greatest, greatest, greatest);
        check("%022d|%22d|%-22d|", "-009223372036854775808|  -9223372036854775808|-9223372036854775808  |", least, least, least);
        check("%d|%s|%d|%s", "-9223372036854775807|-9223372036854775807|9223372036854775806|9223372036854775806",
                -greatest, -greatest, greatest - 1, greatest - 1);
        BigDecimal low = BigDecimal.valueOf(least);
        check("%f|%e|%g|%s", "-9223372036854775808.000000|-9.223372e+18|-9.22337e+18|-9223372036854775808", low, low, low, low);
        check("%.0f|%.18e|%.19g|%.18g", "-9223372036854775808|-9.223372036854775808e+18|-9223372036854775808|-9.22337203685477581e+18",
                low, low, low, low);
        check("%(,.1f|%(.17E|%(.1G", "(9,223,372,036,854,775,808.0)|(9.22337203685477581E+18)|(9E+18)", low, low, low);
        BigDecimal split = BigDecimal.valueOf(least, 18);
        check("%f|%e|%g|%s", "-9.223372|-9.223372e+00|-9.22337|-9.223372036854775808", split, split, split, split);
        check("%.18f|%.17f|%.18e|%.19g", "-9.223372036854775808|-9.22337203685477581|-9.223372036854775808e+00|-9.223372036854775808",
                split, split, split, split);
        BigDecimal small = BigDecimal.valueOf(least, 40);
        check("%f|%e|%g|%s", "-0.000000|-9.223372e-22|-9.22337e-22|-0.0000000000000000000009223372036854775808",
                small, small, small, small);
        check("%.40f|%.39f", "-0.0000000000000000000009223372036854775808|-0.000000000000000000000922337203685477581", small, small);
        BigDecimal high = BigDecimal.valueOf(greatest);
        check("%f|%e|%g|%s", "9223372036854775807.000000|9.223372e+18|9.22337e+18|9223372036854775807", high, high, high, high);
        check("%.18e|%.19g|%.18g", "9.223372036854775807e+18|9223372036854775807|9.22337203685477581e+18", high, high, high);
    }

    private static void arguments() {
        check("%2$s%1$s%s%s%3$s%s", "baabcc", "a", "b", "c");
        check("%s%<s%s%<S", "aabB", "a", "b");
        check("%2$s%<s%s", "bba", "a", "b");
        check("%s%%%<s%n%<s", "a%a\na", "a");
        check("%1$<s", "-9000", "a");
        check("%2$s%1$<s", "bb", "a", "b");
        check("%<s", "-9000", "a");
        check("a%%%<s", "-9003", "a");
        check("%9$s", "i", "a", "b", "c", "d", "e", "f", "g", "h", "i");
        check("%10$s", "-9000", "a", "b", "c", "d", "e", "f", "g", "h", "i");
        check("%99999999999999999999$s", "-9000", "a");
        check("%4294967297$s", "-9000", "a");
        check("%1$%|%2$n|%<-3%", "%|\n|%  ", "a");
        check("%1$%%2$n", "%\n");
        check("%s%s", "-9002", "a");
        check("%s", "-9000");
    }

    private static void faults() {
        String[][] rows = {
            {"%", "-1000"}, {"ab%", "-1002"}, {"%1$", "-1000"}, {"%-", "-1000"}, {"%--", "-1000"}, {"%12", "-1000"},
            {"%12.5", "-1000"}, {"%%%", "-1002"},
            {"%q", "-2000"}, {"%--q", "-2000"}, {"%D", "-2000"}, {"%F", "-2000"}, {"%O", "-2000"}, {"%N", "-2000"}, {"%.", "-2000"},
            {"%.s", "-2000"}, {"%5.-s", "-2000"}, {"%0$s", "-2000"}, {"%-1$s", "-2000"}, {"%1$2$s", "-2000"}, {"% ,q", "-2000"}, {"%\u00e4", "-2000"}, {"%\0", "-2000"}, {"%5\0", "-2000"},
            {"%--5s", "-3000"}, {"%00n", "-3000"}, {"%<<s", "-3000"}, {"x%+-+.5c", "-3001"},
            {"%5n", "-4000"}, {"%.5n", "-4000"}, {"%-n", "-4000"}, {"%-5.5n", "-4000"}, {"%<n", "-4000"},
            {"%.5c", "-5000"}, {"%.5C", "-5000"}, {"%.5d", "-5000"}, {"%.5o", "-5000"}, {"%.0x", "-5000"}, {"%.5X", "-5000"}, {"%#.5%", "-5000"},
            {"%#s", "-6000"}, {"%+b", "-6000"}, {"%05s", "-6000"}, {"%,B", "-6000"}, {"%(S", "-6000"}, {"% c", "-6000"}, {"%#C", "-6000"},
            {"%0%", "-6000"}, {"%#d", "-6000"}, {"%+x", "-6000"}, {"%,o", "-6000"}, {"%(X", "-6000"}, {"% x", "-6000"}, {"%,e", "-6000"},
            {"%,E", "-6000"}, {"%#g", "-6000"}, {"%#G", "-6000"}, {"%-#d", "-6000"},
            {"%-s", "-7000"}, {"%0d", "-7000"}, {"%-d", "-7000"}, {"%-%", "-7000"}, {"%-0d", "-7000"}, {"%0+ f", "-7000"},
            {"%-05d", "-8000"}, {"%+ d", "-8000"}, {"%+ f", "-8000"}, {"%-05f", "-8000"}, {"%+ 5$d", "-2000"},
            {"%2$d", "-9000"}, {"%-5<d", "-2000"}, {"%-<5d", "-9000"},
            {"%d", "-10000"}, {"abc%c", "-10003"}, {"%C", "-10000"}, {"%o", "-10000"}, {"%x", "-10000"}, {"%X", "-10000"}, {"%f", "-10000"},
            {"%e", "-10000"}, {"%E", "-10000"}, {"%g", "-10000"}, {"%G", "-10000"}, {"%s%<d", "-10002"},
            {"%s%d%q", "-9002"}, {"%d%q", "-10000"},
        };
        for (String[] row : rows) {
            check(row[0], row[1], "text");
        }
        Object[] kinds = {true, 'c', 5, "text", dec("5")};
        String[] conversions = {"c", "C", "d", "o", "x", "X", "f", "e", "E", "g", "G"};
        for (int kind = 0; kind < kinds.length; kind++) {
            for (int i = 0; i < conversions.length; i++) {
                boolean good = kind == 1 && i < 2 || kind == 2 && i >= 2 && i < 6 || kind == 4 && i >= 6;
                boolean answered = !with(kinds[kind]).formatted("%" + conversions[i]).equals("-10000");
                House.due("%" + conversions[i] + " of " + kinds[kind], answered, good);
            }
        }
    }

    private static String times(char c, int n) {
        return new String(new char[n]).replace('\0', c);
    }

    private static void lengths() {
        check("%4096s", times(' ', 4095) + "x", "x");
        check("%4097s", "-12000", "x");
        check("%9999s|", "-12000", "x");
        check("%99999999999s", "-12000", "x");
        check("%4095sab", "-12007", "x");
        check("%4095sa", times(' ', 4094) + "xa", "x");
        check("%4096s%%", "-12006", "x");
        check("%4096s%s", times(' ', 4095) + "x", "x", "");
        check("ab%.4091fc", "ab0." + times('0', 4091) + "c", dec("0"));
        check("ab%.4092fc", "-12009", dec("0"));
        check("abc%.4092f", "-12003", dec("0"));
        check("%.9999f", "-12000", dec("0"));
        check("%.99999f", "-12000", dec("0"));
        check("%.9999e", "-12000", dec("1"));
        check("%.9999g", "-12000", dec("1"));
        check("%.9999s", "text", "text");
        check("%.4096d", "-5000", 1);
        check("%.2000f%.2000f%.2000f", "-12014", dec("1"), dec("1"), dec("1"));
        House h = with("x");
        h.tape(times('y', 256));
        House.due("256 bytes", h.x.format(), 256);
        House.due("they are printed", h.paper(256), times('y', 256));
        h.tape(times('y', 257));
        h.refuses("257 bytes", House.ILLEGAL_STATE, () -> h.x.format());
    }

    private static void state() {
        House h = with("x", 5);
        House.due("a format", h.formatted("<%s>"), "<x>");
        House.due("the tape is used up", h.x.wipe(), 0);
        House.due("the arguments stay", h.formatted("%s%s"), "x5");
        h.tape("ab%q");
        House.due("a fault", h.x.format(), -2002);
        House.due("the paper is empty then", h.paper(0) + h.x.paperAt(0), "0");
        House.due("the tape stays", h.x.wipe(), 4);
        h.x.print(0, 0, 10);
        House.due("an empty format", h.x.format(), 0);
        House.due("an empty paper", h.x.paperAt(0), 0);
    }
}
