import java.math.BigInteger;

/** The edges of tape and paper that the first lines of the document's Terms name. */
public final class EdgeTapeTest {
    public static void main(String[] args) {
        room();
        usedUp();
        notUsedUp();
        notRead();
        paperHasTheLast();
        calls();
        House.end();
    }

    private static String times(char c, int n) {
        return new String(new char[n]).replace('\0', c);
    }

    private static void room() {
        House.sentence("THE TAPE is a row of up to 4100 bytes, which come by feed()");
        for (int n = 1; n <= 8; n++) {
            int bytes = n;
            House h = new House();
            h.tape(times('0', 4100 - n));
            House.due("the last " + n + " bytes", h.x.feed(n, 0x3737373737373737L), 4100);
            House.due("they are read", h.x.read(0, 0, 8) && h.x.told(0, 0, 0) == (1L << 3 * bytes) - 1, true);
            Twins.answers(n + " bytes, one too many", NumberHouse.NONE, Twins.withTape(times('0', 4101 - n)), x -> x.feed(bytes, -1));
            House full = new House();
            full.tape(times('0', 4101 - n));
            full.x.feed(n, -1);
            House.due("as many as before", full.x.wipe(), 4101 - n);
        }
        House h = new House();
        BigInteger most = House.two(2048).subtract(BigInteger.ONE);
        House.due("4100 bytes are a text", h.reads(0, 0, 2, times('0', 2052) + times('1', 2048)), true);
        House.due("which counts to the last", h.getWhole(0), most);
        h.tape("1" + times('0', 4099));
        House.due("and from the first on", House.thrown(() -> h.x.read(0, 0, 2)), House.ARITHMETIC);
        House.due("a float of 4100 bytes", h.reads(2, 0, 10, times(' ', 2000) + "1" + times('0', 100) + "e-100" + times(' ', 1994)), true);
        House.due("is read", h.x.told(2, 0, 0), Double.doubleToRawLongBits(1.0));
        House.due("a decimal of 4100 bytes", h.reads(1, 0, 10, "-." + times('0', 4096) + "25"), true);
        House.due("has a scale", h.x.told(1, 0, 1), 4098);
    }

    private static void usedUp() {
        House.sentence("a call that reads it uses it up, if it answers well");
        for (int kind = 0; kind < 4; kind++) {
            House h = new House();
            House.due("read of kind " + kind, h.reads(kind, 0, 10, "12"), true);
            House.due("its tape", h.x.wipe(), 0);
        }
        House h = new House();
        h.tape("12");
        House.due("a text", h.x.argument(7, 0), 1);
        House.due("its tape", h.x.wipe(), 0);
        h.tape("%s");
        House.due("a format", h.x.format(), 2);
        House.due("its tape", h.x.wipe(), 0);
        h.tape("%.0s");
        House.due("a format that prints nothing", h.x.format(), 0);
        House.due("its tape", h.x.wipe(), 0);
    }

    private static void notUsedUp() {
        House.sentence("a call that reads it uses it up, if it answers well");
        for (int kind = 0; kind < 4; kind++) {
            int which = kind;
            Twins.answers("no text of kind " + kind, 0, Twins.withTape("1x"), x -> x.read(which, 1, 10) ? 1 : 0);
        }
        String most = House.two(2048).toString(10);
        Twins.refuses("too great a whole", House.ARITHMETIC, Twins.withTape(most), x -> x.read(0, 1, 10));
        Twins.refuses("too great a scale", House.ARITHMETIC, Twins.withTape("1e-10001"), x -> x.read(1, 1, 10));
        Twins.refuses("no such register", House.ILLEGAL_ARGUMENT, Twins.withTape("12"), x -> x.read(1, 10, 10));
        Twins.refuses("too long a text", House.ILLEGAL_STATE, Twins.withTape(times('z', 65)), x -> x.argument(7, 0));
        Twins.refuses("too long a format", House.ILLEGAL_STATE, Twins.withTape(times('z', 257)), x -> x.format());
        Twins.answers("a tenth text", NumberHouse.NONE, h -> {
            for (int i = 0; i < 9; i++) {
                h.x.argument(6, 'a' + i);
            }
            h.tape("kept");
        }, x -> x.argument(7, 0));
        House h = new House();
        h.tape("ab%1$s");
        House.due("a fault", h.x.format(), -9002);
        House.due("the tape stays", Twins.tape(h), "ab%1$s");
    }

    /** No other call reads it. */
    private static void notRead() {
        House.sentence("a call that reads it uses it up, if it answers well");
        House h = new House();
        Twins.furnish(h);
        h.x.put(0, 0, 5);
        h.x.told(0, 0, 0);
        h.x.compare(0, 0, 1);
        h.x.whole(0, 0, 1, 2);
        h.x.wholeBy(0, 0, 2, 2);
        h.x.powerModulo(0, 1, 3, 2);
        h.x.decimal(0, 0, 1, 2);
        h.x.decimalBy(2, 0, 1, 2);
        h.x.divide(0, 1, 2, 5, 0);
        h.x.quotient(0, 1, 2, 5, 0);
        h.x.shape(2, 0, 2, 5, 0);
        h.x.convert(0, 0, 2, 0);
        h.x.print(0, 0, 10);
        h.x.figures(2, 0, true, 5, 0);
        for (int kind : new int[] {0, 1, 4, 5, 6, 8}) {
            h.x.argument(kind, 0);
        }
        h.x.paperAt(0);
        House.due("the tape", Twins.tape(h), "4711");
    }

    private static void paperHasTheLast() {
        House.sentence("THE PAPER has the bytes that were printed last.");
        House h = new House();
        String nines = House.ten(1000).subtract(BigInteger.ONE).toString();
        House.due("the longest that there is", h.reads(1, 0, 10, "-" + nines + "e10000"), true);
        House.due("its length", h.x.print(1, 0, 1), 11001);
        House.due("its last bytes", h.x.paperAt(10993), 0x3030303030303030L);
        House.due("behind them", h.x.paperAt(11001), 0);
        House.due("all of it", h.paper(11001), "-" + nines + times('0', 10000));
        House.due("a byte alone", h.printed(0, 0, 10), "0");
        for (int i = 1; i < 11008; i++) {
            if (h.x.paperAt(i) != 0) {
                House.due("nothing is left at " + i, h.x.paperAt(i), 0);
            }
        }
        h.x.put(2, 0, Double.doubleToRawLongBits(-1.5));
        House.due("figures", h.paper(h.x.figures(2, 0, false, 3, 0)), "-1.500");
        House.due("a float", h.printed(2, 0, 0), "-1.5");
        House.due("a format", h.formatted("xyz"), "xyz");
        House.due("an empty format", h.formatted(""), "");
    }

    private static void calls() {
        House.sentence("An object is used for at most 512 calls after it has been made");
        NumberHouse feeds = new NumberHouse();
        for (int i = 1; i < 512; i++) {
            feeds.feed(8, 0x3030303030303030L);
        }
        House.due("the 512th feed", feeds.feed(8, 0), 4096);
        NumberHouse sums = new NumberHouse();
        sums.put(0, 1, Long.MAX_VALUE);
        for (int i = 2; i < 512; i++) {
            sums.whole(0, 0, 1, 0);
        }
        House.due("the 512th call after 510 sums", sums.told(0, 0, 2), 63 + 9);
        NumberHouse formats = new NumberHouse();
        formats.argument(6, 'x');
        for (int i = 2; i < 512; i += 2) {
            formats.feed(6, 0x733639303425L);
            House.due("a long format", formats.format(), 4096);
        }
        House.due("the 512th call after 255 formats", formats.paperAt(4095), (int) 'x');
        NumberHouse arguments = new NumberHouse();
        for (int i = 1; i < 512; i++) {
            House.due("arguments come and go", arguments.argument(i % 10 == 0 ? 8 : 4, 0), i % 10);
        }
        House.due("the 512th", arguments.argument(4, 0), 2);
    }
}
