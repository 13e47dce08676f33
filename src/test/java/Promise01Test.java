/** Promise 1: a new object. */
public final class Promise01Test {
    public static void main(String[] args) {
        House h = new House();
        House.due("the paper is empty", h.x.paperAt(0), 0);
        House.due("the tape is empty", h.x.wipe(), 0);
        for (int a = 0; a < 10; a++) {
            House.due("whole " + a, h.x.told(0, a, 1), 0);
            House.due("bits of whole " + a, h.x.told(0, a, 0), 0);
            House.due("decimal " + a, h.x.told(1, a, 0), 0);
            House.due("scale of decimal " + a, h.x.told(1, a, 1), 0);
            House.due("precision of decimal " + a, h.x.told(1, a, 2), 1);
            House.due("wide " + a, h.x.told(2, a, 0), 0);
            House.due("narrow " + a, h.x.told(3, a, 0), 0);
        }
        House.due("no arguments", h.formatted("%s"), "-9000");
        House.due("the first argument", h.x.argument(4, 0), 1);
        House.due("nothing is to read", h.x.wipe() == 2 && !h.x.read(0, 0, 10), true);
        House.due("NONE", NumberHouse.NONE, -1);
        twoHouses();
        House.end();
    }

    /** What one object does is not seen in another. */
    private static void twoHouses() {
        House first = new House();
        first.x.put(0, 3, 77);
        first.x.print(0, 3, 10);
        first.x.feed(1, '5');
        first.x.argument(4, 0);
        House second = new House();
        House.due("a whole of its own", second.x.told(0, 3, 0), 0);
        House.due("a paper of its own", second.x.paperAt(0), 0);
        House.due("a tape of its own", second.x.wipe(), 0);
        House.due("arguments of its own", second.x.argument(8, 0) == 0 && second.x.argument(4, 0) == 1, true);
    }
}
