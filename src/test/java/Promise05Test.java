/** Promise 5: put. */
public final class Promise05Test {
    public static void main(String[] args) {
        House h = new House();
        long[] values = {0, 1, -1, 7, Long.MAX_VALUE, Long.MIN_VALUE, 1L << 31, -(1L << 31), 1L << 62, 0x7fffffffL};
        for (int i = 0; i < values.length; i++) {
            h.x.put(0, i, values[i]);
            h.x.put(1, i, values[i]);
            h.x.put(2, i, values[i]);
        }
        for (int i = 0; i < values.length; i++) {
            House.due("whole", h.printed(0, i, 10), values[i]);
            House.due("decimal", h.printed(1, i, 0), values[i]);
            House.due("scale", h.x.told(1, i, 1), 0);
            House.due("precision", h.x.told(1, i, 2), String.valueOf(values[i]).replace("-", "").length());
            House.due("wide", h.x.told(2, i, 0), values[i]);
        }
        h.x.put(3, 9, 0xffffffffL);
        House.due("narrow", h.x.told(3, 9, 0), 0xffffffffL);
        h.x.put(2, 0, 0x7ff0000000000001L);
        House.due("bits stay as they are", h.x.told(2, 0, 0), 0x7ff0000000000001L);
        h.x.decimalBy(1, 1, 5, 1);
        h.x.put(1, 1, 3);
        House.due("the scale is 0 again", h.x.told(1, 1, 1), 0);
        h.refuses("narrow above", House.ILLEGAL_ARGUMENT, () -> h.x.put(3, 0, 0x100000000L));
        h.refuses("narrow below 0", House.ILLEGAL_ARGUMENT, () -> h.x.put(3, 0, -1));
        int[][] wrong = {{-1, 0}, {4, 0}, {0, -1}, {0, 10}, {1, 10}, {2, -1}, {3, 10}};
        for (int[] call : wrong) {
            h.refuses("put " + call[0] + " " + call[1], House.ILLEGAL_ARGUMENT, () -> h.x.put(call[0], call[1], 1));
        }
        House.end();
    }
}
