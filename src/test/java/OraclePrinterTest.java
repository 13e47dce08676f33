import java.math.BigDecimal;
import java.math.BigInteger;
import java.math.MathContext;
import java.math.RoundingMode;
import java.util.ArrayList;
import java.util.List;
import java.util.Locale;
import java.util.Random;
import java.util.regex.Matcher;
import java.util.regex.Pattern;

/** The printer against String.format where both say the same, and against a second reading of the faults. */
public final class OraclePrinterTest {
    private static final Random RANDOM = new Random(4096);
    private static final Object NOTHING = new Object();
    private static final Pattern DIRECTIVE = Pattern.compile(
            "%([1-9][0-9]*+\\$)?+([-#+0,(< ]*+)([1-9][0-9]*+)?+(\\.[0-9]++)?+(.)", Pattern.DOTALL);

    private int ordinary;
    private int last;

    public static void main(String[] args) {
        for (int round = 0; round < 3000; round++) {
            new OraclePrinterTest().round();
        }
        House.end();
    }

    private void round() {
        House h = new House();
        List<Object> arguments = new ArrayList<>();
        int count = RANDOM.nextInt(10);
        for (int i = 0; i < count; i++) {
            arguments.add(someArgument(h));
        }
        for (int i = 0; i < 12; i++) {
            String format = someFormat(arguments);
            House.due("format " + format + " of " + arguments, h.formatted(format), expected(format, arguments));
        }
    }

    private static Object someArgument(House h) {
        switch (RANDOM.nextInt(8)) {
            case 0:
                h.x.argument(4, RANDOM.nextInt());
                return NOTHING;
            case 1:
                int truth = RANDOM.nextInt(3) - 1;
                h.x.argument(5, truth);
                return truth != 0;
            case 2:
                int code = 32 + RANDOM.nextInt(90);
                h.x.argument(6, code);
                return (char) code;
            case 3:
                StringBuilder text = new StringBuilder();
                for (int i = RANDOM.nextInt(65); i > 0; i--) {
                    text.append((char) (32 + RANDOM.nextInt(95)));
                }
                h.tape(text.toString());
                h.x.argument(7, RANDOM.nextInt());
                return text.toString();
            case 4:
            case 5:
                long whole = someLong();
                h.x.put(0, 0, whole);
                h.x.argument(0, 0);
                return whole;
            default:
                BigDecimal decimal = BigDecimal.valueOf(someLong(), RANDOM.nextInt(41));
                h.setDecimal(0, decimal);
                h.x.argument(1, 0);
                return decimal;
        }
    }

    private static long someLong() {
        switch (RANDOM.nextInt(6)) {
            case 0:
                return RANDOM.nextInt(3) - 1;
            case 1:
                return RANDOM.nextBoolean() ? Long.MIN_VALUE : Long.MAX_VALUE;
            case 2:
                return BigInteger.TEN.pow(RANDOM.nextInt(19)).longValue() - RANDOM.nextInt(2);
            default:
                return RANDOM.nextLong() >> RANDOM.nextInt(64);
        }
    }

    private static String someFormat(List<Object> arguments) {
        StringBuilder format = new StringBuilder();
        int parts = 1 + RANDOM.nextInt(4);
        for (int i = 0; i < parts; i++) {
            if (RANDOM.nextInt(4) == 0) {
                format.append("ab$ 1".substring(RANDOM.nextInt(5)));
            }
            format.append('%');
            if (RANDOM.nextInt(3) != 0) {
                format.append(1 + RANDOM.nextInt(Math.max(1, arguments.size() + RANDOM.nextInt(2)))).append('$');
            }
            for (int k = RANDOM.nextInt(3); k > 0; k--) {
                format.append("-#+0,(< ".charAt(RANDOM.nextInt(8)));
            }
            if (RANDOM.nextInt(3) != 0) {
                format.append(RANDOM.nextInt(40) == 0 ? 4080 + RANDOM.nextInt(20) : 1 + RANDOM.nextInt(30));
            }
            if (RANDOM.nextInt(3) == 0) {
                format.append('.').append(RANDOM.nextInt(60) == 0 ? 4050 + RANDOM.nextInt(60) : RANDOM.nextInt(25));
            }
            if (RANDOM.nextInt(40) != 0) {
                format.append("bBsScCdoxXfeEgG%nffggddq.".charAt(RANDOM.nextInt(25)));
            }
        }
        return format.toString();
    }

    private String expected(String format, List<Object> arguments) {
        ordinary = 0;
        last = -1;
        StringBuilder all = new StringBuilder();
        int place = 0;
        while (place < format.length()) {
            int fault = 0;
            int next = place + 1;
            if (format.charAt(place) == '%') {
                Matcher matcher = DIRECTIVE.matcher(format).region(place, format.length());
                if (matcher.lookingAt()) {
                    fault = faultOf(matcher, arguments);
                    next = matcher.end();
                    if (fault == 0) {
                        all.append(text(matcher, arguments));
                    }
                } else {
                    fault = 1;
                }
            } else {
                all.append(format.charAt(place));
            }
            fault = fault == 0 && all.length() > 4096 ? 12 : fault;
            if (fault != 0) {
                return String.valueOf(-1000 * fault - place);
            }
            place = next;
        }
        return all.toString();
    }

    private int faultOf(Matcher m, List<Object> arguments) {
        char c = m.group(5).charAt(0);
        String flags = m.group(2);
        if ("bBsScCdoxXfeEgG%n".indexOf(c) < 0) {
            return 2;
        }
        for (int i = 0; i < flags.length(); i++) {
            if (flags.indexOf(flags.charAt(i)) != i) {
                return 3;
            }
        }
        if (c == 'n' && (m.group(3) != null || m.group(4) != null || !flags.isEmpty())) {
            return 4;
        }
        if (m.group(4) != null && "cCdoxX%".indexOf(c) >= 0) {
            return 5;
        }
        String can = "bBsScC%".indexOf(c) >= 0 ? "-<" : c == 'd' ? "-+0,(< " : "oxX".indexOf(c) >= 0 ? "-#0<"
                : c == 'f' ? "-#+0,(< " : "eE".indexOf(c) >= 0 ? "-#+0(< " : "-+0,(< ";
        for (char flag : flags.toCharArray()) {
            if (c != 'n' && can.indexOf(flag) < 0) {
                return 6;
            }
        }
        boolean minus = flags.indexOf('-') >= 0;
        boolean zero = flags.indexOf('0') >= 0;
        if ((minus || zero) && m.group(3) == null) {
            return 7;
        }
        if (minus && zero || flags.indexOf('+') >= 0 && flags.indexOf(' ') >= 0) {
            return 8;
        }
        return c == '%' || c == 'n' ? 0 : faultOfArgument(m, arguments, c);
    }

    private int faultOfArgument(Matcher m, List<Object> arguments, char c) {
        int which;
        if (m.group(2).indexOf('<') >= 0) {
            which = last;
        } else if (m.group(1) != null) {
            which = Integer.parseInt(m.group(1).substring(0, m.group(1).length() - 1)) - 1;
        } else {
            which = ordinary++;
        }
        if (which < 0 || which >= arguments.size()) {
            return 9;
        }
        last = which;
        Object argument = arguments.get(which);
        boolean good = argument == NOTHING || "bBsS".indexOf(c) >= 0
                || "cC".indexOf(c) >= 0 && argument instanceof Character
                || "doxX".indexOf(c) >= 0 && argument instanceof Long
                || "feEgG".indexOf(c) >= 0 && argument instanceof BigDecimal;
        return good ? 0 : 10;
    }

    private String text(Matcher m, List<Object> arguments) {
        char c = m.group(5).charAt(0);
        String flags = m.group(2).replace("<", "");
        String width = m.group(3) == null ? "" : m.group(3);
        String precision = m.group(4) == null ? "" : m.group(4);
        if (c == 'n') {
            return "\n";
        }
        if (c == '%') {
            return String.format("%" + flags + width + "s", "%");
        }
        Object argument = arguments.get(last);
        if (argument == NOTHING) {
            String body = Character.toLowerCase(c) == 'b' ? "false" : "null";
            body = Character.isUpperCase(c) ? body.toUpperCase() : body;
            String cut = "bBsS".indexOf(c) >= 0 ? precision : "";
            return String.format("%" + (flags.indexOf('-') >= 0 ? "-" : "") + width + cut + "s", body);
        }
        if ("gG".indexOf(c) >= 0) {
            return general((BigDecimal) argument, flags, width, precision, c);
        }
        return String.format(Locale.ROOT, "%" + flags + width + precision + c, given(argument, c));
    }

    /** String.format writes decimals by s with an exponent, and 0 by e with that of its scale. */
    private static Object given(Object argument, char c) {
        if (!(argument instanceof BigDecimal)) {
            return argument;
        }
        BigDecimal decimal = (BigDecimal) argument;
        if ("sS".indexOf(c) >= 0) {
            return decimal.toPlainString();
        }
        return decimal.signum() == 0 ? BigDecimal.ZERO : decimal;
    }

    /** g by f or e of the rounded value; a sign that the rounding loses is put back by a small number. */
    private static String general(BigDecimal value, String flags, String width, String precision, char c) {
        int p = precision.isEmpty() ? 6 : Math.max(1, Integer.parseInt(precision.substring(1)));
        BigDecimal rounded = value.round(new MathContext(p, RoundingMode.HALF_UP));
        BigDecimal size = rounded.abs();
        boolean plain = size.signum() == 0
                || size.compareTo(new BigDecimal("0.0001")) >= 0 && size.compareTo(BigDecimal.TEN.pow(p)) < 0;
        if (!plain) {
            String way = flags.replace(",", "") + width + "." + (p - 1) + (c == 'g' ? "e" : "E");
            return String.format(Locale.ROOT, "%" + way, rounded);
        }
        int top = size.signum() == 0 ? 0 : size.precision() - 1 - size.scale();
        return String.format(Locale.ROOT, "%" + flags + width + "." + (p - 1 - top) + "f", rounded);
    }
}
