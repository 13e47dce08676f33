import java.math.BigDecimal;
import java.math.BigInteger;

/** The last lines of the document's Terms: which exception comes first, and that a refused call changes nothing. */
public final class EdgeOrderTest {
    private static final long NO_NUMBER = 0x7ff8000000000000L;

    public static void main(String[] args) {
        kindsAndRegisters();
        whatToDo();
        modesAndWays();
        numbersBeforeArithmetic();
        arithmeticBeforeNone();
        throwingChangesNothing();
        noneChangesNothing();
        afterRefusals();
        House.end();
    }

    private static String times(char c, int n) {
        return new String(new char[n]).replace('\0', c);
    }

    /** Every register is one that makes calls throw by arithmetic: 0, below 0, no number, far too great. */
    private static void bad(House h) {
        Twins.furnish(h);
        h.x.put(0, 0, 0);
        h.x.put(1, 0, 0);
        h.x.put(0, 1, -4);
        h.x.put(1, 1, -4);
        h.setWhole(2, House.two(2048).subtract(BigInteger.ONE));
        h.setDecimal(2, new BigDecimal(House.ten(1000).subtract(BigInteger.ONE), -10000));
        h.x.put(2, 0, NO_NUMBER);
        h.x.put(3, 0, 0x7fc00000L);
        h.x.put(2, 1, 0x7ff0000000000000L);
        h.x.put(3, 1, 0xff800000L);
    }

    private static void first(String what, Twins.Act act) {
        Twins.refuses(what, House.ILLEGAL_ARGUMENT, Twins.furnished(EdgeOrderTest::bad), act);
    }

    private static void arithmetic(String what, Twins.Act act) {
        Twins.refuses(what, House.ARITHMETIC, Twins.furnished(EdgeOrderTest::bad), act);
    }

    private static void kindsAndRegisters() {
        House.sentence("IllegalArgumentException is thrown first for a kind, a register");
        arithmetic("told", x -> x.told(2, 0, 1));
        first("told of no kind", x -> x.told(4, 0, 1));
        arithmetic("compare", x -> x.compare(3, 0, 1));
        first("compare of no kind", x -> x.compare(-1, 0, 1));
        first("compare of no register", x -> x.compare(3, 0, 10));
        arithmetic("whole", x -> x.whole(3, 1, 0, 5));
        first("whole to no register", x -> x.whole(3, 1, 0, 10));
        first("whole of no register", x -> x.whole(3, 10, 0, 5));
        first("inverse to no register", x -> x.whole(7, 1, 0, -1));
        first("a sum to no register", x -> x.whole(0, 2, 2, 10));
        arithmetic("a sum", x -> x.whole(0, 2, 2, 5));
        first("a root to no register", x -> x.wholeBy(1, 1, 2, 10));
        arithmetic("a root", x -> x.wholeBy(1, 1, 2, 5));
        first("a power to no register", x -> x.wholeBy(0, 2, 2, 10));
        arithmetic("a power", x -> x.wholeBy(0, 2, 2, 5));
        first("a power modulo 0 to no register", x -> x.powerModulo(1, 1, 0, 10));
        first("a power of no register modulo 0", x -> x.powerModulo(-1, 1, 0, 5));
        arithmetic("a power modulo 0", x -> x.powerModulo(1, 1, 0, 5));
        first("a rest to no register", x -> x.decimal(3, 1, 0, 10));
        arithmetic("a rest", x -> x.decimal(3, 1, 0, 5));
        first("a product to no register", x -> x.decimal(2, 2, 2, 10));
        arithmetic("a product", x -> x.decimal(2, 2, 2, 5));
        first("a decimal's power to no register", x -> x.decimalBy(0, 2, 2, 10));
        arithmetic("a decimal's power", x -> x.decimalBy(0, 2, 2, 5));
        first("divide to no register", x -> x.divide(1, 0, 10, 0, 0));
        arithmetic("divide", x -> x.divide(1, 0, 5, 0, 0));
        first("quotient to no register", x -> x.quotient(1, 0, 10, 0, 0));
        arithmetic("quotient", x -> x.quotient(1, 0, 5, 0, 0));
        first("shape to no register", x -> x.shape(2, 1, 10, 5, 0));
        arithmetic("shape", x -> x.shape(2, 1, 5, 5, 0));
        first("convert to no register", x -> x.convert(2, 0, 0, 10));
        first("convert to no kind", x -> x.convert(2, 0, 4, 5));
        arithmetic("convert", x -> x.convert(2, 0, 0, 5));
        arithmetic("convert", x -> x.convert(1, 2, 0, 5));
        first("figures of no register", x -> x.figures(2, 10, true, 5, 0));
        arithmetic("figures", x -> x.figures(2, 0, true, 5, 0));
        first("an argument of no register", x -> x.argument(0, 10));
        arithmetic("an argument", x -> x.argument(0, 2));
        arithmetic("an argument", x -> x.argument(1, 2));
        first("read to no register", x -> x.read(0, 10, 10));
    }

    private static void whatToDo() {
        House.sentence("or a number of what to do or tell (how, what, style) that there is not");
        first("told 3", x -> x.told(2, 0, 3));
        first("told -1", x -> x.told(2, 0, -1));
        first("whole 12", x -> x.whole(12, 1, 0, 5));
        first("whole -1", x -> x.whole(-1, 1, 0, 5));
        first("wholeBy 3", x -> x.wholeBy(3, 1, 2, 5));
        first("wholeBy -1", x -> x.wholeBy(-1, 1, 2, 5));
        first("decimal 4", x -> x.decimal(4, 1, 0, 5));
        first("decimal -1", x -> x.decimal(-1, 1, 0, 5));
        first("decimalBy 3", x -> x.decimalBy(3, 2, 2, 5));
        first("decimalBy -1", x -> x.decimalBy(-1, 2, 2, 5));
        first("shape 3", x -> x.shape(3, 1, 5, 5, 0));
        first("shape -1", x -> x.shape(-1, 1, 5, 5, 0));
        first("print of a whole to 1", x -> x.print(0, 2, 1));
        first("print of a whole to 37", x -> x.print(0, 2, 37));
        first("print of a decimal in style 3", x -> x.print(1, 2, 3));
        first("print of a float in style 2", x -> x.print(2, 0, 2));
    }

    private static void modesAndWays() {
        House.sentence("IllegalArgumentException is thrown first for a kind, a register, a mode, a way");
        for (int mode : new int[] {-1, 8}) {
            first("divide by 0", x -> x.divide(1, 0, 5, 0, mode));
            first("quotient by 0", x -> x.quotient(1, 0, 5, 5, mode));
            first("quotient by 0, exactly", x -> x.quotient(1, 0, 5, 0, mode));
            first("a root below 0", x -> x.shape(2, 1, 5, 5, mode));
            first("a scale that is too great", x -> x.shape(0, 2, 5, 10000, mode));
            first("a precision", x -> x.shape(1, 2, 5, 1, mode));
        }
        arithmetic("a precision that is too great", x -> x.shape(0, 2, 5, 10000, 0));
        for (int way : new int[] {-1, 4}) {
            first("figures of no number", x -> x.figures(2, 0, true, 5, way));
            first("figures of what is infinite", x -> x.figures(3, 1, false, 5, way));
        }
    }

    private static void numbersBeforeArithmetic() {
        House.sentence("Methods throw what their comments name, the one named first when several would do");
        for (int n : new int[] {0, 65, -1}) {
            first("a root below 0", x -> x.wholeBy(1, 1, n, 5));
        }
        first("a power below 0 of what is too great", x -> x.wholeBy(0, 2, -1, 5));
        first("a power 1000 of what is too great", x -> x.decimalBy(0, 2, 1000, 5));
        first("a power -1 of what is too great", x -> x.decimalBy(0, 2, -1, 5));
        for (int n : new int[] {-10001, 10001}) {
            first("divide by 0 to a scale", x -> x.divide(1, 0, 5, n, 0));
            first("a scale", x -> x.shape(0, 2, 5, n, 7));
        }
        for (int n : new int[] {-1, 1001}) {
            first("quotient by 0", x -> x.quotient(1, 0, 5, n, 0));
        }
        for (int n : new int[] {0, 1001}) {
            first("a precision", x -> x.shape(1, 2, 5, n, 7));
            first("a root below 0", x -> x.shape(2, 1, 5, n, 7));
            first("figures of no number", x -> x.figures(2, 0, true, n, 0));
        }
        for (int n : new int[] {-1, 1101}) {
            first("places of no number", x -> x.figures(2, 0, false, n, 0));
        }
        first("told of no digit", x -> x.told(1, 2, 1003));
        Twins.refuses("a base with too great a number", House.ILLEGAL_ARGUMENT, Twins.withTape("9e99999"), x -> x.read(1, 1, 36));
        Twins.refuses("too great a number", House.ARITHMETIC, Twins.withTape("9e99999"), x -> x.read(1, 1, 10));
        Twins.refuses("a character with a long tape", House.ILLEGAL_ARGUMENT, Twins.withTape(times('z', 65)), x -> x.argument(6, 256));
        Twins.refuses("a kind with a long tape", House.ILLEGAL_ARGUMENT, Twins.withTape(times('z', 65)), x -> x.argument(9, 0));
        Twins.refuses("a long tape", House.ILLEGAL_STATE, Twins.withTape(times('z', 65)), x -> x.argument(7, 0));
        Twins.refuses("n with a full tape", House.ILLEGAL_ARGUMENT, Twins.withTape(times('z', 4100)), x -> x.feed(9, 0));
        Twins.refuses("bits that a narrow one has not, and no register", House.ILLEGAL_ARGUMENT, Twins.FURNISHED, x -> x.put(3, 10, -1));
    }

    private static Twins.Setup nineArguments(String tape) {
        return h -> {
            bad(h);
            for (int i = 0; i < 9; i++) {
                h.x.argument(6, 'a' + i);
            }
            h.x.print(1, 4, 0);
            h.tape(tape);
        };
    }

    private static void arithmeticBeforeNone() {
        House.sentence("NONE when there are 9 already and nothing is thrown.");
        Twins.refuses("a whole that is too great", House.ARITHMETIC, nineArguments("t"), x -> x.argument(0, 2));
        Twins.refuses("a decimal that is too great", House.ARITHMETIC, nineArguments("t"), x -> x.argument(1, 2));
        Twins.refuses("no register", House.ILLEGAL_ARGUMENT, nineArguments("t"), x -> x.argument(1, 10));
        Twins.refuses("no kind", House.ILLEGAL_ARGUMENT, nineArguments("t"), x -> x.argument(3, 0));
        Twins.refuses("no character", House.ILLEGAL_ARGUMENT, nineArguments("t"), x -> x.argument(6, -1));
        Twins.refuses("a long tape", House.ILLEGAL_STATE, nineArguments(times('z', 65)), x -> x.argument(7, 0));
        Twins.answers("a whole", NumberHouse.NONE, nineArguments("t"), x -> x.argument(0, 1));
        Twins.answers("a text", NumberHouse.NONE, nineArguments(times('z', 64)), x -> x.argument(7, 0));
    }

    private static void throwingChangesNothing() {
        House.sentence("a call that throws changes nothing");
        for (int a = 0; a < 10; a++) {
            int to = a;
            arithmetic("whole into " + a, x -> x.whole(2, 2, 2, to));
            arithmetic("decimal into " + a, x -> x.decimal(2, 2, 2, to));
            arithmetic("divide into " + a, x -> x.divide(3, 4, to, 5, 7));
            arithmetic("quotient into " + a, x -> x.quotient(3, 4, to, 5, 7));
            arithmetic("shape into " + a, x -> x.shape(2, 3, to, 5, 7));
            arithmetic("convert into " + a, x -> x.convert(2, 0, 0, to));
            arithmetic("convert into " + a, x -> x.convert(2, 0, 1, to));
            Twins.refuses("read into " + a, House.ARITHMETIC, Twins.withTape(times('z', 400)), x -> x.read(0, to, 36));
            Twins.refuses("read into " + a, House.ARITHMETIC, Twins.withTape("12345e12345"), x -> x.read(1, to, 10));
        }
    }

    private static void noneChangesNothing() {
        House.sentence("nor does one that answers NONE");
        for (int n = 1; n <= 8; n++) {
            int bytes = n;
            Twins.answers("feed " + n, NumberHouse.NONE, Twins.withTape(times('7', 4101 - n)), x -> x.feed(bytes, 0x3838383838383838L));
        }
        for (int kind : new int[] {0, 1, 4, 5, 6, 7}) {
            Twins.answers("argument " + kind, NumberHouse.NONE, nineArguments("kept"), x -> x.argument(kind, 4));
        }
        Twins.answers("told of 0", NumberHouse.NONE, Twins.furnished(EdgeOrderTest::bad), x -> x.told(0, 0, 4));
    }

    /** Calls that were refused leave nothing behind by which a later call would answer otherwise. */
    private static void afterRefusals() {
        House.sentence("a call that throws changes nothing");
        House h = new House();
        bad(h);
        h.tape("");
        Twins.Act[] refused = {
            x -> x.whole(2, 2, 2, 5), x -> x.decimal(2, 2, 2, 5), x -> x.divide(3, 4, 5, 5, 7), x -> x.shape(2, 3, 5, 5, 7), x -> x.convert(1, 2, 0, 5),
            x -> x.wholeBy(0, 2, 64, 5), x -> x.powerModulo(4, 1, 0, 5), x -> x.decimalBy(0, 2, 999, 5), x -> x.figures(2, 0, true, 5, 0),
        };
        for (Twins.Act act : refused) {
            House.due("it throws", House.thrown(() -> act.call(h.x)), House.ARITHMETIC);
            h.x.whole(2, 4, 5, 6);
            House.due("a product of wholes", h.x.told(0, 6, 0), 13 * 17);
            h.x.quotient(4, 5, 6, 5, 4);
            House.due("a quotient of decimals", h.printed(1, 6, 0), "0.76471");
            h.x.convert(1, 6, 2, 6);
            House.due("a float", h.printed(2, 6, 0), "0.76471");
            House.due("figures", h.paper(h.x.figures(2, 6, true, 3, 2)), "7.65e-01");
        }
    }
}
