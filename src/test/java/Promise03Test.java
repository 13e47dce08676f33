/** Promise 3: wipe. */
public final class Promise03Test {
    public static void main(String[] args) {
        House h = new House();
        House.due("an empty tape", h.x.wipe(), 0);
        h.x.feed(5, 0x3132333435L);
        h.x.print(0, 0, 10);
        House.due("five bytes", h.x.wipe(), 5);
        House.due("it is empty then", h.x.wipe(), 0);
        House.due("the paper stays", h.x.paperAt(0), 48);
        House.due("nothing is to read", h.x.read(0, 0, 10), false);
        h.x.feed(1, '7');
        House.due("what comes then stands alone", h.x.read(0, 0, 10) && h.x.told(0, 0, 0) == 7, true);
        House full = new House();
        for (int i = 0; i < 512; i++) {
            full.x.feed(8, 0);
        }
        full.x.feed(4, 0);
        House.due("a full tape", full.x.wipe(), 4100);
        House.end();
    }
}
