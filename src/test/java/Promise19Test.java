import java.math.BigDecimal;

/** Promise 19: argument. */
public final class Promise19Test {
    private static final String ALL = "%s|%s|%s|%s|%s|%s|%s|%s|%s";

    public static void main(String[] args) {
        House h = new House();
        h.x.put(0, 3, -77);
        h.setDecimal(4, new BigDecimal("-1.250"));
        House.due("a whole", h.x.argument(0, 3), 1);
        House.due("a decimal", h.x.argument(1, 4), 2);
        House.due("nothing", h.x.argument(4, -5), 3);
        House.due("a truth", h.x.argument(5, 0), 4);
        House.due("another truth", h.x.argument(5, Integer.MIN_VALUE), 5);
        House.due("a character", h.x.argument(6, 'q'), 6);
        h.tape("a text");
        House.due("a text", h.x.argument(7, -9), 7);
        House.due("the tape is used up", h.x.wipe(), 0);
        House.due("an empty text", h.x.argument(7, 0), 8);
        h.x.put(0, 3, 5);
        House.due("the ninth", h.x.argument(0, 3), 9);
        House.due("all of them", h.formatted(ALL), "-77|-1.250|null|false|true|q|a text||5");
        full(h);
        House.due("all go", h.x.argument(8, 99), 0);
        House.due("none is left", h.formatted("%s"), "-9000");
        House.due("all go again", h.x.argument(8, 0), 0);
        h.tape("x");
        House.due("the first again", h.x.argument(7, 0), 1);
        House.due("it alone", h.formatted("%s"), "x");
        h.tape("a longer text");
        h.x.argument(7, 0);
        h.x.argument(8, 0);
        h.tape("y");
        h.x.argument(7, 0);
        h.x.argument(7, 0);
        House.due("texts without what was there before", h.formatted("%s|%s"), "y|");
        edges();
        wrongCalls();
        House.end();
    }

    private static void full(House h) {
        h.tape("kept");
        House.due("a tenth nothing", h.x.argument(4, 0), NumberHouse.NONE);
        House.due("a tenth text", h.x.argument(7, 0), NumberHouse.NONE);
        House.due("a tenth whole", h.x.argument(0, 3), NumberHouse.NONE);
        House.due("the tape stays", h.x.wipe(), 4);
        House.due("a wrong one throws", House.thrown(() -> h.x.argument(6, 256)), House.ILLEGAL_ARGUMENT);
        h.x.decimalBy(1, 4, 20, 5);
        House.due("one that can't be throws", House.thrown(() -> h.x.argument(1, 5)), House.ARITHMETIC);
        h.tape(text(65));
        House.due("a long text throws", House.thrown(() -> h.x.argument(7, 0)), House.ILLEGAL_STATE);
        House.due("they are as they were", h.formatted(ALL), "-77|-1.250|null|false|true|q|a text||5");
    }

    private static String text(int n) {
        return new String(new char[n]).replace('\0', 'z');
    }

    private static void edges() {
        House h = new House();
        long[] ends = {Long.MAX_VALUE, Long.MIN_VALUE};
        for (long end : ends) {
            h.x.put(0, 1, end);
            h.x.put(1, 1, end);
            h.x.argument(0, 1);
            h.x.argument(1, 1);
        }
        h.x.put(0, 2, 1);
        h.x.put(0, 3, Long.MAX_VALUE);
        h.x.whole(0, 2, 3, 3);
        h.x.whole(1, 1, 2, 4);
        h.refuses("2 to the 63", House.ARITHMETIC, () -> h.x.argument(0, 3));
        h.refuses("less than a long", House.ARITHMETIC, () -> h.x.argument(0, 4));
        h.x.convert(0, 3, 1, 3);
        h.refuses("the number 2 to the 63", House.ARITHMETIC, () -> h.x.argument(1, 3));
        h.x.convert(0, 4, 1, 3);
        h.refuses("a number less than a long", House.ARITHMETIC, () -> h.x.argument(1, 3));
        h.setDecimal(4, new BigDecimal("3E-40"));
        House.due("the scale 40", h.x.argument(1, 4), 5);
        h.setDecimal(4, new BigDecimal("0E-41"));
        h.refuses("the scale 41", House.ARITHMETIC, () -> h.x.argument(1, 4));
        h.setDecimal(4, new BigDecimal("1E+1"));
        h.refuses("the scale -1", House.ARITHMETIC, () -> h.x.argument(1, 4));
        h.x.argument(6, 0);
        h.x.argument(6, 255);
        h.tape(text(65));
        h.refuses("65 bytes", House.ILLEGAL_STATE, () -> h.x.argument(7, 0));
        h.tape(text(64));
        House.due("64 bytes", h.x.argument(7, 0), 8);
        House.due("the edges", h.formatted("%s|%s|%s|%s|%s|%s|%s|%s"), Long.MAX_VALUE + "|" + Long.MAX_VALUE + "|"
                + Long.MIN_VALUE + "|" + Long.MIN_VALUE + "|0." + text(39).replace('z', '0') + "3|\0|\u00ff|" + text(64));
    }

    private static void wrongCalls() {
        House h = new House();
        h.tape("tape");
        int[][] calls = {{-1, 0}, {2, 0}, {3, 0}, {9, 0}, {0, -1}, {0, 10}, {1, 10}, {6, -1}, {6, 256}};
        for (int[] call : calls) {
            h.refuses("argument " + call[0] + " " + call[1], House.ILLEGAL_ARGUMENT, () -> h.x.argument(call[0], call[1]));
        }
        House.due("still the first", h.x.argument(4, 0), 1);
    }
}
