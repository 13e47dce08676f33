import java.math.BigDecimal;
import java.math.BigInteger;

/** The sentences of the promises 17, 18, 20 and 21 that name an edge: print, figures, format and paperAt. */
public final class EdgePrintCallsTest {
    public static void main(String[] args) {
        lengths();
        styles();
        places();
        figures();
        figuresOutside();
        figuresNotFinite();
        formatStays();
        formatFaults();
        formatTooLong();
        eightBytes();
        beyond();
        House.end();
    }

    private static String times(char c, int n) {
        return new String(new char[n]).replace('\0', c);
    }

    private static void lengths() {
        House.sentence("Answers how many bytes that are.");
        House h = new House();
        House.due("one byte", h.x.print(0, 0, 2), 1);
        h.setWhole(1, House.two(2048).subtract(BigInteger.ONE).negate());
        House.due("the longest whole", h.x.print(0, 1, 2), 2049);
        House.due("its last byte", h.x.paperAt(2048), 49);
        House.due("to 36", h.x.print(0, 1, 36), House.two(2048).subtract(BigInteger.ONE).negate().toString(36).length());
        BigInteger nines = House.ten(1000).subtract(BigInteger.ONE).negate();
        h.setDecimal(1, new BigDecimal(nines, -10000));
        House.due("the longest decimal", h.x.print(1, 1, 1), 11001);
        House.due("its last byte", h.x.paperAt(11000), 48);
        House.due("in style 0", h.x.print(1, 1, 0), 1009);
        House.due("in style 2", h.x.print(1, 1, 2), 1009);
        h.setDecimal(1, new BigDecimal(nines, 10000));
        House.due("the longest broken one", h.x.print(1, 1, 1), 10003);
        h.x.put(2, 1, Double.doubleToRawLongBits(-Double.MIN_VALUE));
        House.due("a short text", h.x.print(2, 1, 0), 9);
        House.due("a hexadecimal text", h.x.print(2, 1, 1), 24);
        h.x.put(2, 1, Double.doubleToRawLongBits(-Double.MAX_VALUE));
        House.due("the longest fixed text", h.x.figures(2, 1, false, 1100, 0), 1 + 309 + 1 + 1100);
        House.due("the longest scientific text", h.x.figures(2, 1, true, 800, 0), 1 + 801 + 5);
    }

    private static void styles() {
        House.sentence("IllegalArgumentException, too: another style.");
        Twins.range("the base of a whole", 2, 2, 36, (x, n) -> x.print(n[0], n[1], n[2]), 0, 3, 10);
        Twins.range("the style of a decimal", 2, 0, 2, (x, n) -> x.print(n[0], n[1], n[2]), 1, 3, 0);
        Twins.range("the style of a wide float", 2, 0, 1, (x, n) -> x.print(n[0], n[1], n[2]), 2, 3, 0);
        Twins.range("the style of a narrow float", 2, 0, 1, (x, n) -> x.print(n[0], n[1], n[2]), 3, 3, 0);
        Twins.Setup setup = Twins.furnished(h -> h.x.put(2, 3, -1));
        Twins.refuses("the style of no number", House.ILLEGAL_ARGUMENT, setup, x -> x.print(2, 3, 2));
        Twins.takes("no number has a text", setup, x -> x.print(2, 3, 0));
        Twins.takes("in both styles", setup, x -> x.print(2, 3, 1));
    }

    private static void places() {
        House.sentence("its fixed text with places 0 .. 1100");
        for (int kind = 2; kind < 4; kind++) {
            House h = new House();
            h.x.put(kind, 1, kind == 2 ? Double.doubleToRawLongBits(-1.5) : Float.floatToRawIntBits(-1.5f) & 0xffffffffL);
            House.due("no places", h.paper(h.x.figures(kind, 1, false, 0, 0)), "-1");
            House.due("one place", h.paper(h.x.figures(kind, 1, false, 1, 0)), "-1.5");
            House.due("801 places", h.paper(h.x.figures(kind, 1, false, 801, 0)), "-1.5" + times('0', 800));
            House.due("1100 places", h.paper(h.x.figures(kind, 1, false, 1100, 0)), "-1.5" + times('0', 1099));
            Twins.range("the places", 2, 0, 1100, (x, n) -> x.figures(n[0], n[1], false, n[2], n[3]), kind, 3, 5, 0);
        }
    }

    private static void figures() {
        House.sentence("or its scientific text with figures 1 .. 800");
        for (int kind = 2; kind < 4; kind++) {
            House h = new House();
            h.x.put(kind, 1, kind == 2 ? Double.doubleToRawLongBits(-1.5) : Float.floatToRawIntBits(-1.5f) & 0xffffffffL);
            House.due("one figure", h.paper(h.x.figures(kind, 1, true, 1, 0)), "-1e+00");
            House.due("two figures", h.paper(h.x.figures(kind, 1, true, 2, 0)), "-1.5e+00");
            House.due("800 figures", h.paper(h.x.figures(kind, 1, true, 800, 0)), "-1.5" + times('0', 798) + "e+00");
            Twins.range("the figures", 2, 1, 800, (x, n) -> x.figures(n[0], n[1], true, n[2], n[3]), kind, 3, 5, 0);
        }
    }

    private static void figuresOutside() {
        House.sentence("kind is 2 or 3.");
        for (int kind : new int[] {-1, 0, 1, 4, 5, Integer.MIN_VALUE, Integer.MAX_VALUE}) {
            Twins.refuses("the kind " + kind, House.ILLEGAL_ARGUMENT, Twins.FURNISHED, x -> x.figures(kind, 3, false, 5, 0));
            Twins.refuses("the kind " + kind, House.ILLEGAL_ARGUMENT, Twins.FURNISHED, x -> x.figures(kind, 3, true, 5, 0));
        }
        House.sentence("IllegalArgumentException, too: n is not one of these.");
        Twins.refuses("no figures", House.ILLEGAL_ARGUMENT, Twins.FURNISHED, x -> x.figures(2, 3, true, 0, 0));
        Twins.refuses("801 figures", House.ILLEGAL_ARGUMENT, Twins.FURNISHED, x -> x.figures(2, 3, true, 801, 0));
        Twins.refuses("1100 figures", House.ILLEGAL_ARGUMENT, Twins.FURNISHED, x -> x.figures(2, 3, true, 1100, 0));
        Twins.refuses("-1 places", House.ILLEGAL_ARGUMENT, Twins.FURNISHED, x -> x.figures(2, 3, false, -1, 0));
        Twins.refuses("1101 places", House.ILLEGAL_ARGUMENT, Twins.FURNISHED, x -> x.figures(2, 3, false, 1101, 0));
        Twins.takes("0 places", Twins.FURNISHED, x -> x.figures(2, 3, false, 0, 0));
        Twins.takes("801 places", Twins.FURNISHED, x -> x.figures(2, 3, false, 801, 0));
    }

    private static void figuresNotFinite() {
        House.sentence("ArithmeticException: it is not finite.");
        long[][] rows = {{2, 0x7ff0000000000000L}, {2, 0xfff0000000000000L}, {2, 0x7ff0000000000001L}, {2, -1}, {3, 0x7f800000L}, {3, 0xff800000L}, {3, 0x7f800001L}, {3, 0xffffffffL}};
        for (long[] row : rows) {
            int kind = (int) row[0];
            Twins.Setup setup = Twins.furnished(h -> h.x.put(kind, 1, row[1]));
            Twins.refuses("fixed", House.ARITHMETIC, setup, x -> x.figures(kind, 1, false, 3, 0));
            Twins.refuses("scientific", House.ARITHMETIC, setup, x -> x.figures(kind, 1, true, 3, 0));
            Twins.refuses("n is looked at first", House.ILLEGAL_ARGUMENT, setup, x -> x.figures(kind, 1, true, 0, 0));
            Twins.refuses("n is looked at first", House.ILLEGAL_ARGUMENT, setup, x -> x.figures(kind, 1, false, 1101, 0));
            Twins.refuses("the way is looked at first", House.ILLEGAL_ARGUMENT, setup, x -> x.figures(kind, 1, false, 3, 4));
        }
        Twins.takes("the greatest", Twins.furnished(h -> h.x.put(2, 1, 0x7fefffffffffffffL)), x -> x.figures(2, 1, false, 3, 0));
        Twins.takes("the least", Twins.furnished(h -> h.x.put(3, 1, 0xff7fffffL)), x -> x.figures(3, 1, true, 3, 0));
    }

    private static void formatStays() {
        House.sentence("The tape as a format is printed with the arguments, which stay: how many bytes that are.");
        House h = Formats.with("a", 7, null);
        String before = Twins.arguments(Formats.with("a", 7, null));
        House.due("a format", h.formatted("%s%d%s"), "a7null");
        House.due("the arguments stay", Twins.arguments(h), before);
        House g = Formats.with("a");
        g.tape("%4096s");
        House.due("4096 bytes", g.x.format(), 4096);
        g.tape("");
        House.due("no bytes", g.x.format(), 0);
        House.due("the paper is empty", g.x.paperAt(0), 0);
    }

    private static void formatFaults() {
        House.sentence("When a directive is at fault, the paper is empty then, and the tape stays");
        for (String format : new String[] {"abc%", "abc%q", "abc%--5s", "abc%5n", "abc%.5d", "abc%#s", "abc%-s", "abc%+ d", "abc%9$s", "abc%d", "abc%5000s"}) {
            House h = Formats.with("x");
            h.formatted("a long paper that was there before");
            h.tape(format);
            House.due("a fault of " + format, h.x.format() < -1000, true);
            for (int i = 0; i < 64; i++) {
                House.due("the paper is empty", h.x.paperAt(i), 0);
            }
            House.due("the tape stays", Twins.tape(h), format);
        }
        House h = Formats.with("x");
        h.tape("%q");
        House.due("a fault", h.x.format(), -2000);
        House.due("the same again", h.x.format(), -2000);
        h.x.feed(1, 'x');
        House.due("the tape goes on", h.x.wipe(), 3);
        House registers = new House();
        Twins.furnish(registers);
        registers.tape("%q");
        registers.x.format();
        House other = new House();
        Twins.furnish(other);
        for (int kind = 0; kind < 4; kind++) {
            for (int a = 0; a < 10; a++) {
                House.due("registers stay", registers.x.told(kind, a, 0), other.x.told(kind, a, 0));
            }
        }
    }

    private static void formatTooLong() {
        House.sentence("IllegalStateException: the tape has more than 256 bytes.");
        Twins.refuses("257 bytes", House.ILLEGAL_STATE, Twins.withTape(times('z', 257)), x -> x.format());
        Twins.refuses("4100 bytes", House.ILLEGAL_STATE, Twins.withTape(times('z', 4100)), x -> x.format());
        Twins.takes("256 bytes", Twins.withTape(times('z', 256)), x -> x.format());
        House h = new House();
        h.tape(times('z', 255) + "%");
        House.due("256 bytes with a fault", h.x.format(), -1255);
    }

    private static void eightBytes() {
        House.sentence("The eight bytes of the paper from place i on, the first one as the lowest");
        House h = new House();
        StringBuilder text = new StringBuilder();
        for (int i = 0; i < 40; i++) {
            text.append((char) (255 - i * 3));
        }
        h.tape(text.toString());
        int n = h.x.format();
        House.due("forty bytes", n, 40);
        for (int i = -10; i < 50; i++) {
            long want = 0;
            for (int k = 0; k < 8; k++) {
                int at = i + k;
                want |= at >= 0 && at < 40 ? (long) text.charAt(at) << 8 * k : 0;
            }
            House.due("from " + i, h.x.paperAt(i), want);
        }
    }

    private static void beyond() {
        House.sentence("0 for those that it has not");
        House h = new House();
        for (int i : new int[] {0, 1, -1, 7, 8, -8, 11000, 11001, 11008, Integer.MAX_VALUE, Integer.MAX_VALUE - 7, Integer.MIN_VALUE, Integer.MIN_VALUE + 7}) {
            House.due("an empty paper at " + i, h.x.paperAt(i), 0);
        }
        h.x.put(0, 1, 12345678);
        h.x.print(0, 1, 10);
        long[] want = {0x3837363534333231L, 0x38373635343332L, 0x383736353433L, 0x3837363534L, 0x38373635L, 0x383736L, 0x3837L, 0x38L, 0};
        for (int i = 0; i <= 8; i++) {
            House.due("from " + i, h.x.paperAt(i), want[i]);
        }
        House.due("from -1", h.x.paperAt(-1), 0x3736353433323100L);
        House.due("from -7", h.x.paperAt(-7), 0x3100000000000000L);
        House.due("from -8", h.x.paperAt(-8), 0);
        for (int i : new int[] {9, 100, 11008, Integer.MAX_VALUE, Integer.MAX_VALUE - 7, Integer.MIN_VALUE, Integer.MIN_VALUE + 7}) {
            House.due("at " + i, h.x.paperAt(i), 0);
        }
        h.x.put(0, 1, 7);
        h.x.print(0, 1, 10);
        House.due("a short paper behind a long one", h.x.paperAt(0), 0x37);
        House.due("nothing of the one before", h.x.paperAt(1), 0);
        Twins.same("looking at the paper", Twins.FURNISHED, x -> x.paperAt(3));
    }
}
