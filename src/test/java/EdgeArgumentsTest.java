import java.math.BigDecimal;

/** The edges of the printer's arguments that the document's Terms and its promise 19 name. */
public final class EdgeArgumentsTest {
    public static void main(String[] args) {
        nine();
        noneWhenFull();
        nothing();
        truths();
        characters();
        wholes();
        texts();
        decimalNumbers();
        decimalScales();
        texts64();
        allGo();
        oneAfterAnother();
        copies();
        howMany();
        otherKinds();
        notSuch();
        House.end();
    }

    private static String times(char c, int n) {
        return new String(new char[n]).replace('\0', c);
    }

    private static void nine() {
        House.sentence("ARGUMENTS of the printer, numbered from 1 on, at most 9");
        House h = new House();
        for (int i = 1; i <= 9; i++) {
            House.due("argument " + i, h.x.argument(6, '0' + i), i);
        }
        House.due("a tenth", h.x.argument(6, 'x'), NumberHouse.NONE);
        House.due("all nine", h.formatted("%s%s%s%s%s%s%s%s%s"), "123456789");
        House.due("the first", h.formatted("%1$s"), "1");
        House.due("the ninth", h.formatted("%9$s"), "9");
        House.due("no tenth", h.formatted("%10$s"), "-9000");
        House.due("none before the first", h.formatted("%0$s"), "-2000");
    }

    private static Twins.Setup full(String tape) {
        return h -> {
            Twins.furnish(h);
            for (int i = 0; i < 6; i++) {
                h.x.argument(6, 'a' + i);
            }
            h.tape(tape);
        };
    }

    private static void noneWhenFull() {
        House.sentence("NONE when there are 9 already and nothing is thrown.");
        for (int kind : new int[] {0, 1, 4, 5, 6, 7}) {
            Twins.answers("a tenth of kind " + kind, NumberHouse.NONE, full("kept"), x -> x.argument(kind, 3));
        }
        Twins.answers("a tenth text that is empty", NumberHouse.NONE, full(""), x -> x.argument(7, 3));
        Twins.answers("a tenth text of 64 bytes", NumberHouse.NONE, full(times('z', 64)), x -> x.argument(7, 3));
        Twins.refuses("a tenth text of 65 bytes", House.ILLEGAL_STATE, full(times('z', 65)), x -> x.argument(7, 3));
        Twins.refuses("a tenth of no kind", House.ILLEGAL_ARGUMENT, full("kept"), x -> x.argument(9, 3));
        Twins.refuses("a tenth of kind 2", House.ILLEGAL_ARGUMENT, full("kept"), x -> x.argument(2, 3));
        Twins.refuses("a tenth of kind 3", House.ILLEGAL_ARGUMENT, full("kept"), x -> x.argument(3, 3));
        Twins.refuses("a tenth of no register", House.ILLEGAL_ARGUMENT, full("kept"), x -> x.argument(0, 10));
        Twins.refuses("a tenth character that there is not", House.ILLEGAL_ARGUMENT, full("kept"), x -> x.argument(6, 256));
        Twins.Setup great = h -> {
            Twins.furnish(h);
            h.setWhole(1, House.two(63));
            h.setDecimal(1, new BigDecimal("1E-41"));
            for (int i = 0; i < 6; i++) {
                h.x.argument(6, 'a' + i);
            }
            h.tape("kept");
        };
        Twins.refuses("a tenth whole that is too great", House.ARITHMETIC, great, x -> x.argument(0, 1));
        Twins.refuses("a tenth decimal of a great scale", House.ARITHMETIC, great, x -> x.argument(1, 1));
        House h = new House();
        full("kept").make(h);
        House.due("that all go is no tenth", h.x.argument(8, 0), 0);
    }

    private static void nothing() {
        House.sentence("nothing (4)");
        for (int a : new int[] {0, -1, 10, 256, Integer.MIN_VALUE, Integer.MAX_VALUE}) {
            House h = new House();
            House.due("with any a", h.x.argument(4, a), 1);
            House.due("it is nothing", h.formatted("%1$s|%1$d|%1$f|%1$c|%1$b"), "null|null|null|null|false");
        }
    }

    private static void truths() {
        House.sentence("the truth that a is not 0 (5)");
        for (int a : new int[] {0, 1, -1, 2, 256, 1 << 16, Integer.MIN_VALUE, Integer.MAX_VALUE}) {
            House h = new House();
            House.due("with any a", h.x.argument(5, a), 1);
            House.due("the truth of " + a, h.formatted("%1$s|%1$b"), a == 0 ? "false|false" : "true|true");
        }
    }

    private static void characters() {
        House.sentence("a CHARACTER, with a code 0 .. 255");
        for (int a = 0; a < 256; a++) {
            House h = new House();
            House.due("the character " + a, h.x.argument(6, a), 1);
            House.due("it is", h.formatted("%c"), String.valueOf((char) a));
        }
        House.sentence("a is not 0 .. 255 (6)");
        for (int a : new int[] {-1, 256, 257, 65536, Integer.MIN_VALUE, Integer.MAX_VALUE}) {
            Twins.refuses("the character " + a, House.ILLEGAL_ARGUMENT, Twins.FURNISHED, x -> x.argument(6, a));
        }
    }

    private static void wholes() {
        House.sentence("a WHOLE number of 64 bits, with a sign");
        long[] good = {0, 1, -1, Long.MAX_VALUE, Long.MAX_VALUE - 1, Long.MIN_VALUE, Long.MIN_VALUE + 1, 1L << 62, -(1L << 62)};
        for (long value : good) {
            House h = new House();
            h.x.put(0, 1, value);
            House.due("the whole " + value, h.x.argument(0, 1), 1);
            House.due("it is", h.formatted("%1$d|%1$s"), value + "|" + value);
        }
        String[] bad = {"9223372036854775808", "-9223372036854775809", "18446744073709551615", "18446744073709551616", "-18446744073709551616",
            "18446744073709551617", House.two(2047).toString(), House.two(2047).negate().toString()};
        for (String text : bad) {
            Twins.refuses("the whole " + text, House.ARITHMETIC, Twins.furnished(h -> h.setWhole(1, new java.math.BigInteger(text))), x -> x.argument(0, 1));
        }
    }

    private static void texts() {
        House.sentence("the tape as a text (7, any a), which is used up");
        for (int a : new int[] {0, -1, 10, 256, Integer.MIN_VALUE, Integer.MAX_VALUE}) {
            House h = new House();
            h.tape("a text");
            House.due("with any a", h.x.argument(7, a), 1);
            House.due("the tape is used up", h.x.wipe(), 0);
            House.due("it is", h.formatted("<%s>"), "<a text>");
        }
        House h = new House();
        House.due("an empty tape", h.x.argument(7, 0), 1);
        House.due("it is a text", h.formatted("<%1$s>%1$b"), "<>true");
    }

    private static void decimalNumbers() {
        House.sentence("a DECIMAL whose number is one of 64 bits");
        String[] good = {"9223372036854775807", "-9223372036854775808", "0", "1", "-1"};
        String[] bad = {"9223372036854775808", "-9223372036854775809", "18446744073709551615", "18446744073709551616", "1" + times('0', 999)};
        for (int scale : new int[] {0, 1, 40}) {
            for (String number : good) {
                BigDecimal value = new BigDecimal(new java.math.BigInteger(number), scale);
                House h = new House();
                h.setDecimal(1, value);
                House.due("the decimal " + value, h.x.argument(1, 1), 1);
                House.due("it is", h.formatted("%s"), value.toPlainString());
            }
            for (String number : bad) {
                BigDecimal value = new BigDecimal(new java.math.BigInteger(number), scale);
                Twins.refuses("the decimal " + value, House.ARITHMETIC, Twins.furnished(h -> h.setDecimal(1, value)), x -> x.argument(1, 1));
            }
        }
    }

    private static void decimalScales() {
        House.sentence("and whose scale is 0 .. 40");
        for (int scale = 0; scale <= 40; scale++) {
            for (long number : new long[] {0, -7}) {
                House h = new House();
                h.setDecimal(1, BigDecimal.valueOf(number, scale));
                House.due("the scale " + scale, h.x.argument(1, 1), 1);
                House.due("it is", h.formatted("%s"), BigDecimal.valueOf(number, scale).toPlainString());
            }
        }
        for (int scale : new int[] {-1, 41, -10000, 10000, 256, -256}) {
            for (long number : new long[] {0, 7}) {
                Twins.refuses("the scale " + scale, House.ARITHMETIC, Twins.furnished(h -> h.setDecimal(1, BigDecimal.valueOf(number, scale))),
                        x -> x.argument(1, 1));
            }
        }
    }

    private static void texts64() {
        House.sentence("a TEXT of at most 64 bytes");
        for (int length : new int[] {0, 1, 7, 8, 63, 64}) {
            House h = new House();
            String text = times('y', length).replaceFirst("y$", "z");
            h.tape(text);
            House.due(length + " bytes", h.x.argument(7, 0), 1);
            House.due("they are", h.formatted("<%s>"), "<" + text + ">");
        }
        House.sentence("IllegalStateException: the tape has more than 64 bytes (7).");
        for (int length : new int[] {65, 66, 128, 256, 257, 4100}) {
            Twins.refuses(length + " bytes", House.ILLEGAL_STATE, Twins.withTape(times('y', length)), x -> x.argument(7, 0));
        }
        for (int kind : new int[] {0, 1, 4, 5, 6, 8}) {
            House h = new House();
            h.tape(times('y', 65));
            House.due("kind " + kind + " does not look at the tape", h.x.argument(kind, 0), kind == 8 ? 0 : 1);
            House.due("which stays", h.x.wipe(), 65);
        }
    }

    private static void allGo() {
        House.sentence("For 8 all arguments go.");
        for (int count = 0; count <= 9; count++) {
            for (int a : new int[] {0, -1, 10, Integer.MIN_VALUE, Integer.MAX_VALUE}) {
                House h = new House();
                for (int i = 0; i < count; i++) {
                    h.x.argument(6, 'a');
                }
                House.due("of " + count + " all go", h.x.argument(8, a), 0);
                House.due("there is none", h.formatted("%1$s"), "-9000");
                House.due("the next is the first", h.x.argument(6, 'z'), 1);
                House.due("it is", h.formatted("%s"), "z");
                House.due("and it alone", h.formatted("%2$s"), "-9000");
            }
        }
        House h = new House();
        Twins.furnish(h);
        h.x.argument(8, 0);
        House.due("the tape stays", h.x.wipe(), 4);
        House.due("and the paper", h.paper(5), "31.25");
    }

    private static void howMany() {
        House.sentence("Answers how many there are then");
        House h = new House();
        int[] kinds = {0, 1, 4, 5, 6, 7, 0, 1, 4};
        for (int i = 0; i < 9; i++) {
            House.due("argument " + (i + 1), h.x.argument(kinds[i], 0), i + 1);
        }
        House.due("all went", h.x.argument(8, 0), 0);
        House.due("one again", h.x.argument(7, 0), 1);
    }

    private static void otherKinds() {
        House.sentence("IllegalArgumentException, too: kinds 2 and 3, or others");
        for (int kind : new int[] {-1, 2, 3, 9, 10, 256, Integer.MIN_VALUE, Integer.MAX_VALUE}) {
            Twins.refuses("the kind " + kind, House.ILLEGAL_ARGUMENT, Twins.FURNISHED, x -> x.argument(kind, 3));
        }
        for (int kind : new int[] {0, 1, 4, 5, 6, 7, 8}) {
            Twins.takes("the kind " + kind, Twins.FURNISHED, x -> x.argument(kind, 3));
        }
    }

    private static void notSuch() {
        House.sentence("ArithmeticException: the number is not such as an argument can have.");
        Twins.Setup great = Twins.furnished(h -> h.setWhole(1, House.two(63)));
        Twins.refuses("2 to the 63", House.ARITHMETIC, great, x -> x.argument(0, 1));
        Twins.takes("one less", Twins.furnished(h -> h.setWhole(1, House.two(63).subtract(java.math.BigInteger.ONE))), x -> x.argument(0, 1));
        Twins.takes("-2 to the 63", Twins.furnished(h -> h.setWhole(1, House.two(63).negate())), x -> x.argument(0, 1));
        Twins.refuses("one less", House.ARITHMETIC, Twins.furnished(h -> h.setWhole(1, House.two(63).negate().subtract(java.math.BigInteger.ONE))), x -> x.argument(0, 1));
        Twins.refuses("a number and a scale", House.ARITHMETIC, Twins.furnished(h -> h.setDecimal(1, new BigDecimal(House.two(63), 41))), x -> x.argument(1, 1));
        Twins.refuses("a value that is whole, with a scale below 0", House.ARITHMETIC, Twins.furnished(h -> h.setDecimal(1, new BigDecimal("1E+1"))), x -> x.argument(1, 1));
    }

    /** What an argument was before all went does not count for the one that has its number then. */
    private static void oneAfterAnother() {
        House.sentence("For 8 all arguments go.");
        Object[] kinds = {null, true, false, 'c', -7, 0, "old text", "", new BigDecimal("-0.25"), new BigDecimal("12")};
        for (Object before : kinds) {
            for (Object after : kinds) {
                House h = Formats.with(before, before);
                h.x.argument(8, 0);
                Formats.add(h, after);
                House fresh = Formats.with(after);
                String what = after + " behind " + before;
                House.due(what, Twins.arguments(h), Twins.arguments(fresh));
                House.due(what + " as a text", Formats.with(after).formatted("%s"), String.valueOf(after));
            }
        }
    }

    /** An argument is what the register had when it came. */
    private static void copies() {
        House.sentence("One more argument: the number of a register, kind 0 or 1");
        House h = new House();
        h.x.put(0, 1, 7);
        h.x.put(1, 1, 8);
        h.x.argument(0, 1);
        h.x.argument(1, 1);
        h.x.put(0, 1, 9);
        h.x.put(1, 1, 9);
        House.due("they stay", h.formatted("%d %s"), "7 8");
        House.due("they stay as they are printed again", h.formatted("%d %s"), "7 8");
        h.tape("one");
        h.x.argument(7, 0);
        h.tape("another");
        h.x.argument(7, 0);
        House.due("texts stay, too", h.formatted("%3$s %4$s"), "one another");
    }
}
