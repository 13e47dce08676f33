/** Registers and kinds that there are, and those that there are not, in every call that names one. */
public final class EdgeRegistersTest {
    public static void main(String[] args) {
        tenOfEachKind();
        registersOfTapeAndTelling();
        registersOfWholes();
        registersOfDecimals();
        registersOfPrinting();
        kinds();
        kindsOfPrinting();
        atFirst();
        House.end();
    }

    private static void tenOfEachKind() {
        House.sentence("REGISTERS 0 .. 9 of each KIND have a number");
        House h = new House();
        for (int kind = 0; kind < 4; kind++) {
            for (int a = 0; a < 10; a++) {
                h.x.put(kind, a, 100 * kind + a + 1);
            }
        }
        for (int a = 0; a < 10; a++) {
            House.due("whole " + a, h.printed(0, a, 10), a + 1);
            House.due("decimal " + a, h.printed(1, a, 0), 100 + a + 1);
            House.due("wide " + a, h.x.told(2, a, 0), 200 + a + 1);
            House.due("narrow " + a, h.x.told(3, a, 0), 300 + a + 1);
        }
    }

    private static void registersOfTapeAndTelling() {
        House.sentence("IllegalArgumentException is thrown first for a kind, a register");
        for (int kind = 0; kind < 4; kind++) {
            Twins.registers("read", (x, n) -> x.read(n[0], n[1], n[2]), new int[] {1}, kind, 3, 10);
            Twins.registers("put", (x, n) -> x.put(n[0], n[1], 5), new int[] {1}, kind, 3);
            Twins.registers("told", (x, n) -> x.told(n[0], n[1], n[2]), new int[] {1}, kind, 3, 1);
            Twins.registers("compare", (x, n) -> x.compare(n[0], n[1], n[2]), new int[] {1, 2}, kind, 3, 4);
            for (int toKind = 0; toKind < 4; toKind++) {
                Twins.registers("convert", (x, n) -> x.convert(n[0], n[1], n[2], n[3]), new int[] {1, 3}, kind, 3, toKind, 4);
            }
        }
    }

    private static void registersOfWholes() {
        House.sentence("IllegalArgumentException is thrown first for a kind, a register");
        for (int how = 0; how < 12; how++) {
            Twins.registers("whole", (x, n) -> x.whole(n[0], n[1], n[2], n[3]), new int[] {1, 2, 3}, how, 3, 4, 5);
        }
        for (int how = 0; how < 3; how++) {
            Twins.registers("wholeBy", (x, n) -> x.wholeBy(n[0], n[1], n[2], n[3]), new int[] {1, 3}, how, 3, 2, 5);
        }
        Twins.registers("powerModulo", (x, n) -> x.powerModulo(n[0], n[1], n[2], n[3]), new int[] {0, 1, 2, 3}, 3, 4, 5, 6);
    }

    private static void registersOfDecimals() {
        House.sentence("IllegalArgumentException is thrown first for a kind, a register");
        for (int how = 0; how < 4; how++) {
            Twins.registers("decimal", (x, n) -> x.decimal(n[0], n[1], n[2], n[3]), new int[] {1, 2, 3}, how, 3, 4, 5);
        }
        for (int how = 0; how < 3; how++) {
            Twins.registers("decimalBy", (x, n) -> x.decimalBy(n[0], n[1], n[2], n[3]), new int[] {1, 3}, how, 3, 2, 5);
            Twins.registers("shape", (x, n) -> x.shape(n[0], n[1], n[2], n[3], n[4]), new int[] {1, 2}, how, 3, 4, 5, 0);
        }
        Twins.registers("divide", (x, n) -> x.divide(n[0], n[1], n[2], n[3], n[4]), new int[] {0, 1, 2}, 3, 4, 5, 6, 0);
        Twins.registers("quotient", (x, n) -> x.quotient(n[0], n[1], n[2], n[3], n[4]), new int[] {0, 1, 2}, 3, 4, 5, 6, 0);
    }

    private static void registersOfPrinting() {
        House.sentence("IllegalArgumentException is thrown first for a kind, a register");
        Twins.registers("print", (x, n) -> x.print(n[0], n[1], n[2]), new int[] {1}, 0, 3, 10);
        Twins.registers("print", (x, n) -> x.print(n[0], n[1], n[2]), new int[] {1}, 1, 3, 2);
        for (int kind = 2; kind < 4; kind++) {
            Twins.registers("print", (x, n) -> x.print(n[0], n[1], n[2]), new int[] {1}, kind, 3, 1);
            Twins.registers("fixed", (x, n) -> x.figures(n[0], n[1], false, n[2], n[3]), new int[] {1}, kind, 3, 5, 0);
            Twins.registers("scientific", (x, n) -> x.figures(n[0], n[1], true, n[2], n[3]), new int[] {1}, kind, 3, 5, 0);
        }
        for (int kind = 0; kind < 2; kind++) {
            Twins.registers("argument", (x, n) -> x.argument(n[0], n[1]), new int[] {1}, kind, 3);
        }
    }

    private static void kinds() {
        House.sentence("kind 0 WHOLES, 1 DECIMALS, 2 WIDE and 3 NARROW floats");
        Twins.range("the kind of read", 0, 0, 3, (x, n) -> x.read(n[0], n[1], n[2]), 0, 3, 10);
        Twins.range("the kind of put", 0, 0, 3, (x, n) -> x.put(n[0], n[1], 5), 0, 3);
        Twins.range("the kind of told", 0, 0, 3, (x, n) -> x.told(n[0], n[1], n[2]), 0, 3, 0);
        Twins.range("the kind of compare", 0, 0, 3, (x, n) -> x.compare(n[0], n[1], n[2]), 0, 3, 4);
        for (int kind = 0; kind < 4; kind++) {
            Twins.range("the first kind of convert", 0, 0, 3, (x, n) -> x.convert(n[0], n[1], n[2], n[3]), 0, 3, kind, 4);
            Twins.range("the second kind of convert", 2, 0, 3, (x, n) -> x.convert(n[0], n[1], n[2], n[3]), kind, 3, 0, 4);
        }
    }

    private static void kindsOfPrinting() {
        House.sentence("IllegalArgumentException is thrown first for a kind");
        Twins.range("the kind of print", 0, 0, 3, (x, n) -> x.print(n[0], 3, n[0] == 0 ? 10 : 1), 0);
        Twins.range("the kind of a fixed text", 0, 2, 3, (x, n) -> x.figures(n[0], 3, false, 5, 0), 2);
        Twins.range("the kind of a scientific text", 0, 2, 3, (x, n) -> x.figures(n[0], 3, true, 5, 0), 2);
        Twins.range("the kind of argument", 0, 0, 1, (x, n) -> x.argument(n[0], 3), 0);
        Twins.range("the kind of argument", 0, 4, 8, (x, n) -> x.argument(n[0], 3), 4);
    }

    private static void atFirst() {
        House.sentence("all 0 at first");
        for (int a = 0; a < 10; a++) {
            House h = new House();
            House.due("whole " + a, h.printed(0, a, 10), "0");
            House.due("decimal " + a, h.printed(1, a, 0), "0");
            House.due("wide " + a, h.printed(2, a, 0), "0.0");
            House.due("narrow " + a, h.printed(3, a, 0), "0.0");
        }
    }
}
