import java.math.BigInteger;

/** The sentences of the promises 1 to 5 that name an edge: a new object, feed, wipe, read and put. */
public final class EdgeTapeCallsTest {
    public static void main(String[] args) {
        newRegisters();
        newTapeAndPaper();
        newArguments();
        lowestBytes();
        howMany();
        feedRefuses();
        wipes();
        readsOrNot();
        readBases();
        readTooGreat();
        puts();
        putRefuses();
        House.end();
    }

    private static void newRegisters() {
        House.sentence("All registers have 0 (wide and narrow 0 with the sign 0)");
        for (int a = 0; a < 10; a++) {
            House h = new House();
            House.due("the sign of whole " + a, h.x.told(0, a, 1), 0);
            House.due("the lowest bit of whole " + a, h.x.told(0, a, 4), NumberHouse.NONE);
            House.due("decimal " + a, h.x.told(1, a, 0), 0);
            House.due("its scale", h.x.told(1, a, 1), 0);
            House.due("its precision", h.x.told(1, a, 2), 1);
            House.due("wide " + a, h.x.told(2, a, 0), 0);
            House.due("narrow " + a, h.x.told(3, a, 0), 0);
        }
    }

    private static void newTapeAndPaper() {
        House.sentence("tape and paper are empty");
        NumberHouse x = new NumberHouse();
        for (int i = -8; i < 200; i++) {
            House.due("the paper at " + i, x.paperAt(i), 0);
        }
        House.due("the tape", x.wipe(), 0);
        House.due("one byte", new NumberHouse().feed(1, 49), 1);
        House.due("nothing is to read", new NumberHouse().read(0, 0, 10), false);
        House.due("an empty format", new NumberHouse().format(), 0);
    }

    private static void newArguments() {
        House.sentence("no arguments");
        House.due("the first argument", new NumberHouse().argument(4, 0), 1);
        House.due("there is none", new House().formatted("%s"), "-9000");
        House.due("nor by an index", new House().formatted("%1$s"), "-9000");
    }

    private static void lowestBytes() {
        House.sentence("The n lowest bytes of a long, the lowest first, come behind the tape.");
        long bytes = 0xf1e2d3c4b5a69788L;
        for (int n = 1; n <= 8; n++) {
            House h = new House();
            h.x.feed(1, 'x');
            House.due(n + " bytes", h.x.feed(n, bytes), n + 1);
            House.due("a format", h.x.format(), n + 1);
            StringBuilder want = new StringBuilder("x");
            for (int i = 0; i < n; i++) {
                want.append((char) (bytes >>> 8 * i & 255));
            }
            House.due("these bytes", h.paper(n + 1), want);
        }
        House h = new House();
        h.x.feed(1, -1);
        h.x.feed(1, 0x100);
        House.due("higher bytes do not come", h.x.format(), 2);
        House.due("the lowest alone", h.x.paperAt(0), 0xff);
    }

    private static void howMany() {
        House.sentence("Answers how many it has then; NONE when there would be more than 4100.");
        NumberHouse x = new NumberHouse();
        for (int i = 1; i <= 512; i++) {
            House.due("feed " + i, x.feed(8, 0), 8 * i);
        }
        for (int n = 5; n <= 8; n++) {
            House.due(n + " more", x.feed(n, 0), NumberHouse.NONE);
        }
        for (int n = 1; n <= 4; n++) {
            House.due("one more", x.feed(1, 0), 4096 + n);
        }
        for (int n = 1; n <= 8; n++) {
            House.due(n + " more than 4100", x.feed(n, 0), NumberHouse.NONE);
        }
        House.due("NONE added nothing", x.wipe(), 4100);
        House.due("and the tape begins anew", x.feed(3, 0), 3);
    }

    private static void feedRefuses() {
        House.sentence("IllegalArgumentException: n is not 1 .. 8.");
        Twins.range("feed", 0, 1, 8, (x, n) -> x.feed(n[0], 0x3131313131313131L), 1);
        Twins.refuses("feed 9 to a full tape", House.ILLEGAL_ARGUMENT, Twins.withTape(new String(new char[4100]).replace('\0', '0')), x -> x.feed(9, 0));
        Twins.refuses("feed 0 to a full tape", House.ILLEGAL_ARGUMENT, Twins.withTape(new String(new char[4100]).replace('\0', '0')), x -> x.feed(0, 0));
    }

    private static void wipes() {
        House.sentence("The tape is empty then. Answers how many bytes it had.");
        for (int n : new int[] {0, 1, 7, 8, 9, 64, 65, 256, 257, 4099, 4100}) {
            House h = new House();
            h.tape(new String(new char[n]).replace('\0', '1'));
            House.due("it had", h.x.wipe(), n);
            House.due("it is empty then", h.x.wipe(), 0);
            House.due("nothing is to read", h.x.read(0, 0, 10), false);
            House.due("and it begins anew", h.x.feed(1, '7'), 1);
            House.due("with that alone", h.x.read(0, 0, 10) && h.x.told(0, 0, 0) == 7, true);
        }
    }

    private static void readsOrNot() {
        House.sentence("A register of a kind gets the number that the tape says: true; false when the tape is no text of this kind.");
        String[] texts = {"7", "1.5", "1e5", "1e00000000001", "0x1p1", "NaN", " 7", "7d", "ff", "", "+", ".", "%"};
        String[] read = {"yyyy", "nyyy", "nyyy", "nnyy", "nnyy", "nnyy", "nnyy", "nnyy", "nnnn", "nnnn", "nnnn", "nnnn", "nnnn"};
        for (int i = 0; i < texts.length; i++) {
            for (int kind = 0; kind < 4; kind++) {
                int which = kind;
                boolean good = read[i].charAt(kind) == 'y';
                House.due(texts[i] + " of kind " + kind, new House().reads(kind, 0, 10, texts[i]), good);
                if (!good) {
                    Twins.answers(texts[i] + " of kind " + kind, 0, Twins.withTape(texts[i]), x -> x.read(which, 3, 10) ? 1 : 0);
                }
            }
        }
        House h = new House();
        Twins.furnish(h);
        House.due("a whole", h.reads(0, 3, 10, "77"), true);
        House.due("goes to its register", h.printed(0, 3, 10) + " " + h.printed(0, 2, 10) + " " + h.printed(0, 4, 10), "77 7 13");
        House.due("of its kind alone", h.printed(1, 3, 0) + " " + h.printed(2, 3, 0) + " " + h.printed(3, 3, 0), "110 11.25 11.5");
    }

    private static void readBases() {
        House.sentence("IllegalArgumentException, too: base is not 2 .. 36 for kind 0, or not 10 for others.");
        Twins.Setup setup = Twins.withTape("1");
        for (int base : new int[] {2, 3, 10, 35, 36}) {
            Twins.takes("base " + base, setup, x -> x.read(0, 1, base));
        }
        for (int base : new int[] {1, 0, -1, -2, -10, 37, 38, Integer.MIN_VALUE, Integer.MAX_VALUE}) {
            Twins.refuses("base " + base, House.ILLEGAL_ARGUMENT, setup, x -> x.read(0, 1, base));
        }
        for (int kind = 1; kind < 4; kind++) {
            int which = kind;
            Twins.takes("base 10 of kind " + kind, setup, x -> x.read(which, 1, 10));
            for (int base : new int[] {9, 11, 2, 16, 36, 0, -10, Integer.MIN_VALUE, Integer.MAX_VALUE}) {
                Twins.refuses("base " + base + " of kind " + kind, House.ILLEGAL_ARGUMENT, setup, x -> x.read(which, 1, base));
            }
            Twins.refuses("a wrong base, and no text", House.ILLEGAL_ARGUMENT, Twins.withTape("x"), x -> x.read(which, 1, 11));
        }
        Twins.refuses("a wrong base, and no text", House.ILLEGAL_ARGUMENT, Twins.withTape("-"), x -> x.read(0, 1, 37));
        Twins.refuses("a wrong base, and too great a number", House.ILLEGAL_ARGUMENT, Twins.withTape("1e10001"), x -> x.read(1, 1, 11));
    }

    private static void readTooGreat() {
        House.sentence("ArithmeticException as said.");
        BigInteger edge = House.two(2048);
        for (String sign : new String[] {"", "+", "-"}) {
            Twins.refuses("2 to the 2048", House.ARITHMETIC, Twins.withTape(sign + edge), x -> x.read(0, 3, 10));
            Twins.takes("one less", Twins.withTape(sign + edge.subtract(BigInteger.ONE)), x -> x.read(0, 3, 10));
            Twins.refuses("the scale -10001", House.ARITHMETIC, Twins.withTape(sign + "1e10001"), x -> x.read(1, 3, 10));
            Twins.takes("the scale -10000", Twins.withTape(sign + "1e10000"), x -> x.read(1, 3, 10));
            Twins.refuses("1001 digits", House.ARITHMETIC, Twins.withTape(sign + House.ten(1000)), x -> x.read(1, 3, 10));
            Twins.takes("1000 digits", Twins.withTape(sign + House.ten(999)), x -> x.read(1, 3, 10));
            Twins.takes("a float can't be too great", Twins.withTape(sign + "1e99999"), x -> x.read(2, 3, 10));
            Twins.takes("nor a narrow one", Twins.withTape(sign + "1e99999"), x -> x.read(3, 3, 10));
        }
        Twins.answers("what is no text is not too great", 0, Twins.withTape(edge + "x"), x -> x.read(0, 3, 10) ? 1 : 0);
        Twins.answers("what is no decimal is not too great", 0, Twins.withTape("1e10001x"), x -> x.read(1, 3, 10) ? 1 : 0);
        Twins.answers("nor one of too many digits", 0, Twins.withTape(House.ten(1000) + "x"), x -> x.read(1, 3, 10) ? 1 : 0);
    }

    private static void puts() {
        House.sentence("A register gets an integer (kind 0), the decimal with this number and the scale 0 (1), or bits (2, 3).");
        for (long value : new long[] {0, 1, -1, 9, 10, -10, Long.MAX_VALUE, Long.MIN_VALUE, Long.MIN_VALUE + 1, 0x7fffffffL, 0x80000000L, 1L << 62, (1L << 62) - 1}) {
            House h = new House();
            h.setDecimal(1, new java.math.BigDecimal("1E-77"));
            h.x.put(0, 1, value);
            h.x.put(1, 1, value);
            h.x.put(2, 1, value);
            House.due("a whole", h.printed(0, 1, 10), value);
            House.due("a decimal", h.printed(1, 1, 0), value);
            House.due("its scale", h.x.told(1, 1, 1), 0);
            House.due("bits", h.x.told(2, 1, 0), value);
        }
    }

    private static void putRefuses() {
        House.sentence("IllegalArgumentException, too: narrow bits above the 32 lowest ones.");
        for (long bits : new long[] {0, 1, 0x7fffffffL, 0x80000000L, 0xffffffffL}) {
            House h = new House();
            h.x.put(3, 1, bits);
            House.due("narrow bits", h.x.told(3, 1, 0), bits);
        }
        for (long bits : new long[] {0x100000000L, 0x100000001L, 1L << 62, -1, -0x80000000L, Long.MIN_VALUE, Long.MAX_VALUE}) {
            Twins.refuses("narrow bits", House.ILLEGAL_ARGUMENT, Twins.FURNISHED, x -> x.put(3, 1, bits));
            Twins.takes("a wide one has them", Twins.FURNISHED, x -> x.put(2, 1, bits));
        }
    }
}
