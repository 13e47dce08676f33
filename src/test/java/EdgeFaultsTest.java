import java.math.BigDecimal;

/** The faults of a directive, each at its edge, and which of several counts. */
public final class EdgeFaultsTest {
    private static final String CONVERSIONS = "bBsScCdoxXfeEgG%n";
    private static final String FLAGS = "-#+0,(< ";

    public static void main(String[] args) {
        ends();
        noConversion();
        flagTwice();
        lineFeed();
        precision();
        impossibleFlags();
        withoutWidth();
        bothFlags();
        noArgument();
        wrongKind();
        tooMuchByWidth();
        tooMuchByFigures();
        tooMuchByCharacters();
        firstThatFits();
        firstDirective();
        places();
        House.end();
    }

    private static String times(char c, int n) {
        return new String(new char[n]).replace('\0', c);
    }

    /** An argument that the conversion takes. */
    private static Object good(char conversion) {
        if ("cC".indexOf(conversion) >= 0) {
            return 'x';
        }
        return "doxX".indexOf(conversion) >= 0 ? (Object) 7 : new BigDecimal("7");
    }

    private static int faultOf(String format, Object... arguments) {
        House h = Formats.with(arguments);
        h.tape(format);
        int answer = h.x.format();
        return answer >= 0 ? 0 : -answer / 1000;
    }

    private static void fault(String format, int want, Object... arguments) {
        House.due("the fault of " + format, faultOf(format, arguments), want);
    }

    private static void ends() {
        House.sentence("1 the format ends within it.");
        String[] begun = {"%", "%1", "%1$", "%9999", "%-", "%--", "%#+0,(< ", "%5", "%-5", "%.5", "%5.5", "%1$-5.50", "%.55", "%<", "%0", "%00"};
        for (String format : begun) {
            Formats.fails(format, 1, 0, "a");
            Formats.fails("ab" + format, 1, 2, "a");
            Formats.fails("%%" + format, 1, 2, "a");
        }
        for (String format : new String[] {"%1$", "%-5", "%5", "%.5", "%5.5", "%1$-5.50"}) {
            fault(format + "s", 0, "a");
        }
    }

    private static void noConversion() {
        House.sentence("2 its conversion is none of these.");
        for (int c = 0; c < 256; c++) {
            char conversion = (char) c;
            if (CONVERSIONS.indexOf(c) >= 0) {
                fault("%" + conversion, 0, good(conversion));
            } else if (FLAGS.indexOf(c) < 0 && (c < '0' || c > '9')) {
                Formats.fails("%" + conversion + "s", 2, 0, "a");
                Formats.fails("x%1$" + conversion + "s", 2, 1, "a");
                Formats.fails("%-5" + conversion + "s", 2, 0, "a");
                fault("%-5.5" + conversion, 2, "a");
            }
        }
    }

    private static void flagTwice() {
        House.sentence("3 a flag twice.");
        for (char flag : FLAGS.toCharArray()) {
            Formats.fails("%s%" + flag + flag + "5f", 3, 2, new BigDecimal("7"), new BigDecimal("7"));
            Formats.fails("%s%" + flag + (flag == '#' ? '+' : '#') + flag + "5f", 3, 2, new BigDecimal("7"), new BigDecimal("7"));
            fault("%s%" + flag + "5f", 0, new BigDecimal("7"), new BigDecimal("7"));
            Formats.fails("%" + flag + flag + "5%", 3, 0);
        }
        fault("%#+0,(<5f", 9, new BigDecimal("7"));
        fault("%s%#+0,(<5f", 0, new BigDecimal("7"));
        fault("%s%-# ,(<5f", 0, new BigDecimal("7"));
    }

    private static void lineFeed() {
        House.sentence("4 for n: a width, a precision, or a flag.");
        Formats.prints("%n", "\n");
        Formats.prints("%1$n", "\n");
        Formats.fails("%1n", 4, 0);
        Formats.fails("%9999n", 4, 0);
        Formats.fails("%.0n", 4, 0);
        Formats.fails("%5.5n", 4, 0);
        for (char flag : FLAGS.toCharArray()) {
            Formats.fails("%" + flag + "n", 4, 0);
            Formats.fails("%s%" + flag + "5n", 4, 2, "a");
        }
    }

    private static void precision() {
        House.sentence("5 a precision with c C d o x X or %.");
        for (char conversion : CONVERSIONS.toCharArray()) {
            int want = conversion == 'n' ? 4 : "cCdoxX%".indexOf(conversion) >= 0 ? 5 : 0;
            fault("%.0" + conversion, want, good(conversion));
            fault("%.9" + conversion, want, good(conversion));
            fault("%5.1" + conversion, want, good(conversion));
            fault("%" + conversion, 0, good(conversion));
            if (want == 5) {
                Formats.fails("ab%.0" + conversion, 5, 2, good(conversion));
            }
        }
    }

    private static void impossibleFlags() {
        House.sentence("6 flags that its conversion can't have: b B s S c C % have - < alone; d all but #; o x X all but + , ( and the blank; f all; e E all but ,; g G all but #.");
        for (char conversion : CONVERSIONS.toCharArray()) {
            for (char flag : FLAGS.toCharArray()) {
                boolean can;
                if ("bBsScC%".indexOf(conversion) >= 0) {
                    can = flag == '-' || flag == '<';
                } else if ("dgG".indexOf(conversion) >= 0) {
                    can = flag != '#';
                } else if ("oxX".indexOf(conversion) >= 0) {
                    can = "+,( ".indexOf(flag) < 0;
                } else {
                    can = conversion == 'f' || flag != ',';
                }
                int want = conversion == 'n' ? 4 : can ? 0 : 6;
                fault("%s%" + flag + "5" + conversion, want, good(conversion), good(conversion));
                if (want == 6) {
                    Formats.fails("x%" + flag + conversion, 6, 1, good(conversion));
                }
            }
        }
    }

    private static void withoutWidth() {
        House.sentence("7 the flags - or 0 without a width.");
        for (char conversion : "bBsScCdoxXfeEgG%".toCharArray()) {
            Formats.fails("%-" + conversion, 7, 0, good(conversion));
            fault("%-1" + conversion, 0, good(conversion));
            boolean zeros = "doxXfeEgG".indexOf(conversion) >= 0;
            fault("%0" + conversion, zeros ? 7 : 6, good(conversion));
            fault("%01" + conversion, zeros ? 0 : 6, good(conversion));
        }
        fault("%-.5s", 7, "a");
        fault("%-5.5s", 0, "a");
        fault("%1$-s", 7, "a");
        fault("%0.5f", 7, new BigDecimal("7"));
        fault("%+f", 0, new BigDecimal("7"));
        fault("%#f", 0, new BigDecimal("7"));
    }

    private static void bothFlags() {
        House.sentence("8 both of - and 0, or both of + and the blank.");
        for (char conversion : "doxXfeEgG".toCharArray()) {
            Formats.fails("%-05" + conversion, 8, 0, good(conversion));
            Formats.fails("%0-5" + conversion, 8, 0, good(conversion));
            fault("%-5" + conversion, 0, good(conversion));
            fault("%05" + conversion, 0, good(conversion));
        }
        for (char conversion : "dfeEgG".toCharArray()) {
            Formats.fails("%+ " + conversion, 8, 0, good(conversion));
            Formats.fails("% +5" + conversion, 8, 0, good(conversion));
            fault("%+" + conversion, 0, good(conversion));
            fault("% " + conversion, 0, good(conversion));
            fault("%+(" + conversion, 0, good(conversion));
            fault("%+05" + conversion, 0, good(conversion));
            fault("% 05" + conversion, 0, good(conversion));
            fault("%-+5" + conversion, 0, good(conversion));
            fault("%- 5" + conversion, 0, good(conversion));
        }
    }

    private static void noArgument() {
        House.sentence("9 there is no such argument (for < no directive with an argument before).");
        Object[] all = {"a", "b", "c", "d", "e", "f", "g", "h", "i"};
        for (int count = 0; count <= 9; count++) {
            Object[] some = java.util.Arrays.copyOf(all, count);
            StringBuilder ordinary = new StringBuilder();
            for (int i = 0; i < count; i++) {
                ordinary.append("%s");
            }
            fault(ordinary.toString(), 0, some);
            Formats.fails(ordinary + "%s", 9, 2 * count, some);
            if (count > 0) {
                fault("%" + count + "$s", 0, some);
            }
            Formats.fails("%" + (count + 1) + "$s", 9, 0, some);
            Formats.fails("%<s", 9, 0, some);
            Formats.fails("%n%%%<s", 9, 4, some);
        }
    }

    private static void wrongKind() {
        House.sentence("10 an argument of a kind that its conversion can't have: c C all but characters and nothing; d o x X all but whole numbers and nothing; f e E g G all but decimals and nothing.");
        Object[] kinds = {null, true, false, 'c', 7, "text", "7", new BigDecimal("7"), new BigDecimal("0.7")};
        for (Object kind : kinds) {
            for (char conversion : "bBsScCdoxXfeEgG".toCharArray()) {
                boolean can = kind == null || "bBsS".indexOf(conversion) >= 0
                        || "cC".indexOf(conversion) >= 0 && kind instanceof Character
                        || "doxX".indexOf(conversion) >= 0 && kind instanceof Integer
                        || "feEgG".indexOf(conversion) >= 0 && kind instanceof BigDecimal;
                fault("%" + conversion, can ? 0 : 10, kind);
                if (!can) {
                    Formats.fails("xyz%1$" + conversion, 10, 3, kind);
                }
            }
        }
    }

    private static void tooMuchByWidth() {
        House.sentence("12 with what it prints there would be more than 4096 characters in all");
        Formats.prints("%4096s", times(' ', 4095) + "x", "x");
        Formats.fails("%4097s", 12, 0, "x");
        Formats.prints("%-4096s", "x" + times(' ', 4095), "x");
        Formats.fails("%-4097s", 12, 0, "x");
        Formats.prints("%04096d", times('0', 4095) + "7", 7);
        Formats.fails("%04097d", 12, 0, 7);
        Formats.prints("%4096%", times(' ', 4095) + "%");
        Formats.fails("%4097%", 12, 0);
        Formats.prints("ab%4094s", "ab" + times(' ', 4093) + "x", "x");
        Formats.fails("ab%4095s", 12, 2, "x");
        Formats.prints("%4095s%s", times(' ', 4094) + "xx", "x", "x");
        Formats.fails("%4095s%s", 12, 6, "x", "xy");
        Formats.prints("%4096s%s%.0s", times(' ', 4095) + "x", "x", "", "z");
        Formats.fails("%4096s%1s", 12, 6, "x", "");
        Formats.prints("%4095s%%", times(' ', 4094) + "x%", "x");
        Formats.fails("%4096s%%", 12, 6, "x");
        Formats.prints("%4095s%n", times(' ', 4094) + "x\n", "x");
        Formats.fails("%4096s%n", 12, 6, "x");
        Formats.prints("%2048s%2048s", times(' ', 2047) + "x" + times(' ', 2047) + "y", "x", "y");
        Formats.fails("%2048s%2049s", 12, 6, "x", "y");
        Formats.fails("%4096S%c", 12, 6, "x", 'y');
    }

    private static void tooMuchByFigures() {
        House.sentence("12 with what it prints there would be more than 4096 characters in all");
        BigDecimal one = new BigDecimal("-1");
        Formats.prints("%.4093f", "-1." + times('0', 4093), one);
        Formats.fails("%.4094f", 12, 0, one);
        Formats.prints("%(.4092f", "(1." + times('0', 4092) + ")", one);
        Formats.fails("%(.4093f", 12, 0, one);
        Formats.prints("%.4089e", "-1." + times('0', 4089) + "e+00", one);
        Formats.fails("%.4090e", 12, 0, one);
        Formats.prints("%.4094g", "-1." + times('0', 4093), one);
        Formats.fails("%.4095g", 12, 0, one);
        Formats.prints("%.4095g", "123." + times('0', 4092), new BigDecimal("123"));
        Formats.fails("%.4096g", 12, 0, new BigDecimal("123"));
        Formats.prints("%.4095g", "0." + times('0', 4094), new BigDecimal("0"));
        Formats.fails("%.4096g", 12, 0, new BigDecimal("0"));
    }

    private static void tooMuchByCharacters() {
        House.sentence("(this is met by a character that is no part of a directive, too: then its place counts)");
        Formats.prints("%4095sa", times(' ', 4094) + "xa", "x");
        Formats.fails("%4096sa", 12, 6, "x");
        Formats.fails("%4095sab", 12, 7, "x");
        Formats.prints("%4000s" + times('y', 96), times(' ', 3999) + "x" + times('y', 96), "x");
        Formats.fails("%4000s" + times('y', 97), 12, 102, "x");
        Formats.fails("%4000s" + times('y', 96) + "\0", 12, 102, "x");
        Formats.fails("%4096sa%q", 12, 6, "x");
        Formats.fails("%4096s%qa", 2, 6, "x");
        Formats.fails("%4096s%", 1, 6, "x");
    }

    private static void firstThatFits() {
        House.sentence("FAULTS, of which a directive has the first one that fits");
        BigDecimal seven = new BigDecimal("7");
        String[][] rows = {
            // the format, of the text "a", and the fault
            {"%--", "1"}, {"%5000", "1"}, {"%--5.5", "1"}, {"%9$", "1"}, {"%-0", "1"},
            {"%--5q", "2"}, {"%-q", "2"}, {"%-05q", "2"}, {"%5000q", "2"}, {"%9$q", "2"}, {"%.5q", "2"}, {"%#q", "2"}, {"%<q", "2"},
            {"%--n", "3"}, {"%--5.5d", "3"}, {"%##d", "3"}, {"%--d", "3"}, {"%--05d", "3"}, {"%9$--5d", "3"}, {"%++ d", "3"}, {"%<<d", "3"}, {"%--5000d", "3"}, {"%--s", "3"},
            {"%.5n", "4"}, {"%#n", "4"}, {"%-n", "4"}, {"%-05n", "4"}, {"%+ n", "4"}, {"%5000n", "4"}, {"%<n", "4"},
            {"%#.5d", "5"}, {"%-.5d", "5"}, {"%-05.5d", "5"}, {"%+ .5d", "5"}, {"%9$.5d", "5"}, {"%.5d", "5"}, {"%5000.5d", "5"}, {"%<.5d", "5"}, {"%+.5x", "5"}, {"%#.5c", "5"}, {"%#.5%", "5"},
            {"%-#d", "6"}, {"%0#d", "6"}, {"%+ s", "6"}, {"%-05s", "6"}, {"%0s", "6"}, {"%9$#d", "6"}, {"%#d", "6"}, {"%5000#d", "2"}, {"%#5000d", "6"}, {"%<#d", "6"}, {"%+ x", "6"}, {"%+ #d", "6"}, {"%,-e", "6"},
            {"%-0d", "7"}, {"%-+ d", "7"}, {"%0+ f", "7"}, {"%9$-d", "7"}, {"%-d", "7"}, {"%<-d", "7"}, {"%0x", "7"}, {"%-.5f", "7"},
            {"%9$-05d", "8"}, {"%-05d", "8"}, {"%+ d", "8"}, {"%<+ d", "8"}, {"%-05000d", "8"}, {"%9$+ d", "8"}, {"%-05x", "8"},
            {"%9$5000d", "9"}, {"%9$d", "9"}, {"%<5000d", "9"}, {"%<d", "9"}, {"%9$s", "9"},
            {"%5000d", "10"}, {"%.5000f", "10"}, {"%d", "10"}, {"%5000c", "10"},
            {"%5000s", "12"}, {"%5000b", "12"}, {"%5000%", "12"},
        };
        for (String[] row : rows) {
            Formats.fails(row[0], Integer.parseInt(row[1]), 0, "a");
        }
        Formats.fails("%s%--5.5q", 2, 2, seven);
    }

    private static void firstDirective() {
        House.sentence("the first directive at fault counts");
        Formats.fails("%q%", 2, 0, "a");
        Formats.fails("%d%q", 10, 0, "a");
        Formats.fails("%5000s%q", 12, 0, "a");
        Formats.fails("%s%s%q", 9, 2, "a");
        Formats.fails("%s%q%s", 2, 2, "a");
        Formats.fails("%s%-s%q%", 7, 2, "a", "b");
        Formats.fails("%s%+ d%#d", 8, 2, "a", 7, 7);
        Formats.fails("%s%n%.5n%q", 4, 4, "a");
        Formats.fails("%-5s%##d%", 3, 4, "a", 7);
    }

    private static void places() {
        House.sentence("-1000 times the fault, less the place in the format at which that stood");
        for (int place : new int[] {0, 1, 2, 9, 99, 100, 250, 253}) {
            Formats.fails(times('y', place) + "%q", 2, place);
            Formats.fails(times('y', place) + "%5n", 4, place);
            Formats.fails(times('y', place) + "%s", 9, place);
        }
        Formats.fails(times('y', 255) + "%", 1, 255);
        Formats.fails("%1$s%1$-5s%1$-s", 7, 10, "a");
    }
}
