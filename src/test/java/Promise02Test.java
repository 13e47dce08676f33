/** Promise 2: feed. */
public final class Promise02Test {
    public static void main(String[] args) {
        House h = new House();
        House.due("one byte", h.x.feed(1, 0x7f31L), 1);
        House.due("behind it", h.x.feed(2, 0x3332L), 3);
        House.due("eight bytes", h.x.feed(8, 0x3737363635353434L), 11);
        h.x.read(0, 0, 10);
        House.due("the lowest first", h.printed(0, 0, 10), "12344556677");
        House.due("it was used up", h.x.wipe(), 0);
        for (int n : new int[] {0, -1, 9, Integer.MIN_VALUE, Integer.MAX_VALUE}) {
            h.refuses("feed " + n, House.ILLEGAL_ARGUMENT, () -> h.x.feed(n, 49));
        }
        House.due("all bytes can come", h.x.feed(8, -1L), 8);
        full();
        House.end();
    }

    private static void full() {
        House h = new House();
        for (int i = 1; i <= 512; i++) {
            h.x.feed(8, 0x3030303030303030L);
        }
        House.due("4097 bytes", h.x.feed(1, '1'), 4097);
        House.due("5 more are too many", h.x.feed(5, 0x3939393939L), NumberHouse.NONE);
        House.due("8 more are too many", h.x.feed(8, 0x3939393939393939L), NumberHouse.NONE);
        House.due("n counts before the room", House.thrown(() -> h.x.feed(9, 0)), House.ILLEGAL_ARGUMENT);
        House.due("3 more have room", h.x.feed(3, 0x343332L), 4100);
        House.due("there is no more", h.x.feed(1, '9'), NumberHouse.NONE);
        House.due("all of them are read", h.x.read(0, 0, 10), true);
        House.due("NONE brought nothing", h.x.told(0, 0, 0), 1234);
        House.due("the tape has room again", h.x.feed(8, 0), 8);
    }
}
