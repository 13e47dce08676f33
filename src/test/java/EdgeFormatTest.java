import java.math.BigDecimal;

/** The edges of the format and of its conversions that the document's Terms name. */
public final class EdgeFormatTest {
    public static void main(String[] args) {
        length();
        asItIs();
        indexes();
        flags();
        widths();
        precisions();
        farNumbers();
        choice();
        choiceAgain();
        noArgument();
        truths();
        anything();
        decimalsWithAllDigits();
        cutShort();
        characters();
        wholes();
        octalAndHexadecimal();
        House.end();
    }

    private static BigDecimal dec(String text) {
        return new BigDecimal(text);
    }

    private static String times(char c, int n) {
        return new String(new char[n]).replace('\0', c);
    }

    private static void length() {
        House.sentence("THE FORMAT is a text of at most 256 bytes.");
        for (int n : new int[] {0, 1, 255, 256}) {
            House h = new House();
            h.tape(times('y', n));
            House.due(n + " bytes", h.x.format(), n);
            House.due("they are printed", h.paper(n), times('y', n));
            House.due("the tape is used up", h.x.wipe(), 0);
        }
        Formats.prints(times('y', 254) + "%s", times('y', 254) + "z", "z");
        Formats.fails(times('y', 255) + "%", 1, 255);
        House.sentence("IllegalStateException: the tape has more than 256 bytes.");
        for (int n : new int[] {257, 258, 512, 4100}) {
            Twins.refuses(n + " bytes", House.ILLEGAL_STATE, Twins.withTape(times('y', n)), x -> x.format());
            Twins.refuses(n + " bytes with a fault", House.ILLEGAL_STATE, Twins.withTape("%" + times('y', n - 1)), x -> x.format());
        }
    }

    private static void asItIs() {
        House.sentence("What is not a part of a directive is printed as it is.");
        for (int c = 0; c < 256; c++) {
            if (c != '%') {
                Formats.prints("" + (char) c, "" + (char) c);
                Formats.prints((char) c + "%s" + (char) c, (char) c + "z" + (char) c, "z");
            }
        }
        Formats.prints("", "");
        Formats.prints("1$s -5d .3f", "1$s -5d .3f");
        Formats.prints("%ss%SS%dd", "zsZS7d", "z", "z", 7);
    }

    private static void indexes() {
        House.sentence("perhaps an INDEX, digits (the first one not 0) with $ behind them");
        Object[] nine = {"a", "b", "c", "d", "e", "f", "g", "h", "i"};
        for (int i = 1; i <= 9; i++) {
            Formats.prints("%" + i + "$s", String.valueOf("abcdefghi".charAt(i - 1)), nine);
        }
        Formats.prints("%1$3s|%2$-3s|%3$.0s|", "  a|b  ||", nine);
        Formats.fails("%10$s", 9, 0, nine);
        Formats.fails("%0$s", 2, 0, nine);
        Formats.fails("%01$s", 2, 0, nine);
        Formats.fails("%$s", 2, 0, nine);
        Formats.fails("%1$1$s", 2, 0, nine);
        Formats.fails("%-1$s", 2, 0, nine);
        Formats.fails("%1$", 1, 0, nine);
    }

    private static void flags() {
        House.sentence("any FLAGS of - # + 0 , ( < and the blank");
        for (String flags : new String[] {"#+0,(", "(,0+#", "0#(,+", "+(0#,", ",0+(#"}) {
            Formats.prints("%" + flags + "12.0f", "(00001,234.)", dec("-1234"));
            Formats.prints("%s%<" + flags + "12.0f", "-1234(00001,234.)", dec("-1234"));
        }
        Formats.prints("%- (,9d|", "(1,234)  |", -1234);
        Formats.prints("%,(- 9d|", " 1,234   |", 1234);
        Formats.prints("%#06x", "0x00ff", 255);
        Formats.prints("%0#6x", "0x00ff", 255);
        Formats.fails("%5+d", 2, 0, 7);
        Formats.fails("%.1-f", 2, 0, dec("7"));
    }

    private static void widths() {
        House.sentence("perhaps a WIDTH, digits (the first one not 0)");
        Formats.prints("%1s|%2s|%3s|%4s", "ab|ab| ab|  ab", "ab", "ab", "ab", "ab");
        Formats.prints("%-1s|%-2s|%-3s|%-4s|", "ab|ab|ab |ab  |", "ab", "ab", "ab", "ab");
        Formats.prints("%10s|", "        ab|", "ab");
        Formats.prints("%01d|%02d|%010d", "7|07|0000000007", 7, 7, 7);
        Formats.fails("%0d", 7, 0, 7);
        Formats.fails("%00d", 3, 0, 7);
        Formats.fails("%5 d", 2, 0, 7);
        Formats.fails("%5-d", 2, 0, 7);
        Formats.prints("%1b|%5b|%6b", "false|false| false", null, null, null);
        Formats.prints("%1%|%2%|%-2%|", "%| %|% |");
        Formats.prints("%3c|%-3c|", "  x|x  |", 'x', 'x');
        Formats.prints("%3x|%-3x|%03x|%2x", " ff|ff |0ff|ff", 255, 255, 255, 255);
    }

    private static void precisions() {
        House.sentence("perhaps a point and a PRECISION, one digit or more");
        Formats.prints("%.0s|%.1s|%.2s|%.3s|%.00002s|%.01s", "|a|ab|ab|ab|a", "ab", "ab", "ab", "ab", "ab", "ab");
        Formats.prints("%5.1s|%-5.1s|", "    a|a    |", "ab", "ab");
        Formats.prints("%.0f|%.1f|%.00f", "2|1.5|2", dec("1.5"), dec("1.5"), dec("1.5"));
        Formats.fails("%.s", 2, 0, "ab");
        Formats.fails("%5.s", 2, 0, "ab");
        Formats.fails("%.-1s", 2, 0, "ab");
        Formats.fails("%..1s", 2, 0, "ab");
        Formats.fails("%.1.1s", 2, 0, "ab");
        Formats.fails("%.1", 1, 0, "ab");
    }

    private static void farNumbers() {
        House.sentence("(Numbers are as said; one above 9999 counts as 9999.)");
        for (String far : new String[] {"9999", "10000", "65537", "4294967297", "4294967298", "18446744073709551617", "99999999999999999999999999999999"}) {
            Formats.fails("%" + far + "$s", 9, 0, "ab", "cd");
            Formats.fails("%" + far + "s", 12, 0, "ab");
            Formats.fails("%-" + far + "s", 12, 0, "ab");
            Formats.prints("%." + far + "s", "ab", "ab");
            Formats.fails("%." + far + "f", 12, 0, dec("1.5"));
            Formats.fails("%." + far + "e", 12, 0, dec("1.5"));
            Formats.fails("%." + far + "g", 12, 0, dec("1.5"));
        }
        Formats.prints("%.00000000000000000000001s", "a", "ab");
        Formats.prints("%4096s", times(' ', 4094) + "ab", "ab");
    }

    private static void choice() {
        House.sentence("else with an index that one; else, for the first directive of this kind, argument 1, and for each other of this kind the next one");
        Formats.prints("%s%s%s", "abc", "a", "b", "c");
        Formats.prints("%3$s%s%2$s%s%1$s%s", "cabbac", "a", "b", "c");
        Formats.prints("%s%<s%s", "aab", "a", "b");
        Formats.prints("%3$s%<s%s", "cca", "a", "b", "c");
        Formats.prints("%s%%%s%n%s", "a%b\nc", "a", "b", "c");
        Formats.fails("%s%s%s", 9, 4, "a", "b");
        Formats.fails("%s%1$s%s", 9, 6, "a");
        Formats.fails("%s", 9, 0);
        Formats.fails("%1$s", 9, 0);
        Formats.fails("%2$s", 9, 0, "a");
    }

    private static void choiceAgain() {
        House.sentence("Its argument: with the flag < that of the directive with an argument before it");
        Formats.prints("%s%<s", "aa", "a", "b");
        Formats.prints("%s%<s%<s%<s", "aaaa", "a", "b");
        Formats.prints("%2$s%<s%s%<s", "bbaa", "a", "b");
        Formats.prints("%s%s%1$<s", "abb", "a", "b");
        Formats.prints("%s%9$<s", "aa", "a");
        Formats.prints("%s%%%<s", "a%a", "a", "b");
        Formats.prints("%s%n%<s", "a\na", "a", "b");
        Formats.prints("%s%<%%<s", "a%a", "a", "b");
        Formats.prints("%s%<5s%<-5s|", "a    aa    |", "a", "b");
        Formats.fails("%<s", 9, 0, "a");
        Formats.fails("%%%<s", 9, 2, "a");
        Formats.fails("%n%<s", 9, 2, "a");
        Formats.fails("x%1$<s", 9, 1, "a");
        Formats.fails("%s%<d", 10, 2, "a");
    }

    private static void noArgument() {
        House.sentence("% prints %, n a line feed (10).");
        Formats.prints("%%|%n|", "%|\n|");
        Formats.prints("%%%%%n%n", "%%\n\n");
        House.sentence("(% and n have none.)");
        Formats.prints("%%", "%");
        Formats.prints("%n", "\n");
        Formats.prints("%<%", "%");
        Formats.prints("%9$%", "%");
        Formats.prints("%9$n", "\n");
        Formats.prints("%%%s%n%s", "%a\nb", "a", "b");
        Formats.prints("%-3%|%3%|%<-3%|", "%  |  %|%  |");
    }

    private static void truths() {
        House.sentence("b B: false for nothing and the truth that is false; true for all else.");
        Formats.prints("%b%b%b%b%b%b%b%b", "falsefalsetruetruetruetruetruetrue", null, false, true, '\0', 0, "", "false", dec("0.00"));
        Formats.prints("%B%B", "FALSETRUE", null, "x");
        House.sentence("With a precision its first characters alone, so many.");
        Formats.prints("%.0b|%.1b|%.3b|%.4b|%.5b", "|t|tru|true|true", 1, 1, 1, 1, 1);
        Formats.prints("%.0b|%.1b|%.4b|%.5b|%.6b", "|f|fals|false|false", null, null, null, null, null);
        Formats.prints("%5.1B|%-5.1B|", "    T|T    |", 1, 1);
    }

    private static void anything() {
        House.sentence("s S: null for nothing; true or false; the character; a whole number in digits, - before it if it is below 0; the text");
        Formats.prints("%s|%s|%s|%s|%s|%s|%s|%s", "null|true|false|\u00ff|0|-7|text|", null, true, false, '\u00ff', 0, -7, "text", "");
        Formats.prints("%S|%S|%S|%S|%S|%S|%S|%S", "NULL|TRUE|FALSE|Z|0|-7|TEXT|", null, true, false, 'z', 0, -7, "text", "");
        Formats.prints("%s|%s", "9223372036854775807|-9223372036854775808", Long.MAX_VALUE, Long.MIN_VALUE);
        StringBuilder all = new StringBuilder();
        for (int c = 0; c < 64; c++) {
            all.append((char) (c * 4 + 3));
        }
        Formats.prints("%s", all.toString(), all.toString());
        Formats.prints("%s|%S", "@[`{az\u00e0|@[`{AZ\u00e0", "@[`{az\u00e0", "@[`{az\u00e0");
    }

    private static void decimalsWithAllDigits() {
        House.sentence("a decimal with all its digits, - before them if it is below 0, a point before the last s of them if s is above 0, and zeros before them so that one stands before the point at least");
        String[] texts = {"0", "7", "-7", "0.0", "0.7", "-0.7", "0.07", "7.0", "12.34", "0.1234", "0.01234", "100", "0.00"};
        for (String text : texts) {
            Formats.prints("%s", text, dec(text));
        }
        Formats.prints("%s", "0." + times('0', 40), BigDecimal.valueOf(0, 40));
        Formats.prints("%s", "-0." + times('0', 39) + "1", BigDecimal.valueOf(-1, 40));
        Formats.prints("%s", "0." + times('0', 21) + "9223372036854775807", BigDecimal.valueOf(Long.MAX_VALUE, 40));
        Formats.prints("%s", "-9.223372036854775808", BigDecimal.valueOf(Long.MIN_VALUE, 18));
        Formats.prints("%s", "-0.9223372036854775808", BigDecimal.valueOf(Long.MIN_VALUE, 19));
    }

    private static void cutShort() {
        House.sentence("With a precision the first characters alone.");
        Formats.prints("%.0s|%.3s|%.4s|%.5s", "|nul|null|null", null, null, null, null);
        Formats.prints("%.1s|%.2s|%.3s", "-|-1|-12", -12, -12, -12);
        Formats.prints("%.1s|%.2s|%.4s|%.5s", "0|0.|0.50|0.50", dec("0.50"), dec("0.50"), dec("0.50"), dec("0.50"));
        Formats.prints("%.0s|%.1s|%.2s", "|x|x", 'x', 'x', 'x');
        Formats.prints("%.3s|%.3s", "tru|fal", true, false);
        Formats.prints("%.64s|%.63s", times('y', 64) + "|" + times('y', 63), times('y', 64), times('y', 64));
        Formats.prints("%5.2S|", "   TE|", "text");
    }

    private static void characters() {
        House.sentence("c C: the character; null for nothing.");
        for (int c = 0; c < 256; c++) {
            Formats.prints("%c|%C", (char) c + "|" + (char) (c >= 'a' && c <= 'z' ? c - 32 : c), (char) c, (char) c);
        }
        Formats.prints("%c|%C|%6c|%-6c|", "null|NULL|  null|null  |", null, null, null, null);
    }

    private static void wholes() {
        House.sentence("d: a whole number in digits.");
        Formats.prints("%d|%d|%d|%d", "0|-1|9223372036854775807|-9223372036854775808", 0, -1, Long.MAX_VALUE, Long.MIN_VALUE);
        Formats.prints("%d|%5d|%-6d|%06d", "null| null|null  |  null", null, null, null, null);
    }

    private static void octalAndHexadecimal() {
        House.sentence("o x X: a whole number to the base 8 or 16, digits 0 .. 9 a .. f; one below 0 as itself with 2 to the 64.");
        long[] values = {0, 1, 7, 8, 9, 15, 16, 63, 64, 255, 256, Long.MAX_VALUE, Long.MIN_VALUE, Long.MIN_VALUE + 1, -1, -2, -8, -16, 1L << 62, 1L << 60, (1L << 63) - 1};
        for (long value : values) {
            Formats.prints("%o|%x|%X", Long.toOctalString(value) + "|" + Long.toHexString(value) + "|" + Long.toHexString(value).toUpperCase(), value, value, value);
            Formats.prints("%#o|%#x|%#X", "0" + Long.toOctalString(value) + "|0x" + Long.toHexString(value) + "|0X" + Long.toHexString(value).toUpperCase(),
                    value, value, value);
        }
        House.sentence("With the flag # 0 (o) or 0x (x X) before it.");
        Formats.prints("%#o|%#x|%#X", "00|0x0|0X0", 0, 0, 0);
        Formats.prints("%#3o|%#4x|%#-4X|%#06x|%#04o", " 07| 0x7|0X7 |0x0007|0007", 7, 7, 7, 7, 7);
        Formats.prints("%#o|%#x|%#X|%#08x", "null|null|NULL|    null", null, null, null, null);
    }
}
