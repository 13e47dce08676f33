/** Promise 21: paperAt. */
public final class Promise21Test {
    public static void main(String[] args) {
        House h = new House();
        House.due("an empty paper", h.x.paperAt(0), 0);
        h.x.put(0, 0, 1234567890123L);
        h.x.print(0, 0, 10);
        House.due("the first eight", h.x.paperAt(0), word("12345678"));
        House.due("from 1 on", h.x.paperAt(1), word("23456789"));
        House.due("from 7 on", h.x.paperAt(7), word("890123"));
        House.due("from 8 on", h.x.paperAt(8), word("90123"));
        House.due("the last", h.x.paperAt(12), word("3"));
        House.due("behind it", h.x.paperAt(13), 0);
        House.due("far behind it", h.x.paperAt(Integer.MAX_VALUE), 0);
        House.due("from -1 on", h.x.paperAt(-1), word("\0001234567"));
        House.due("from -7 on", h.x.paperAt(-7), word("\0\0\0\0\0\0\0001"));
        House.due("from -8 on", h.x.paperAt(-8), 0);
        House.due("far before it", h.x.paperAt(Integer.MIN_VALUE), 0);
        h.x.put(0, 0, 5);
        h.x.print(0, 0, 10);
        House.due("the last print alone", h.x.paperAt(0), word("5"));
        House.due("nothing of the one before", h.x.paperAt(1), 0);
        h.x.argument(6, 255);
        h.x.argument(6, 128);
        House.due("high bytes", h.formatted("%c%c%1$c%1$c%1$c%1$c%1$c%1$c").length(), 8);
        House.due("as they are", h.x.paperAt(0), 0xffffffffffff80ffL);
        House.end();
    }

    private static long word(String text) {
        long value = 0;
        for (int i = 0; i < text.length(); i++) {
            value |= (long) text.charAt(i) << (8 * i);
        }
        return value;
    }
}
