import java.math.BigInteger;

/** Promise 8: whole. */
public final class Promise08Test {
    private static final BigInteger MOST = House.two(2048).subtract(BigInteger.ONE);

    public static void main(String[] args) {
        long[][] rows = {
            // how, a, b, answer
            {0, 5, -7, -2}, {0, -5, 5, 0}, {1, 5, 7, -2}, {1, -5, -5, 0}, {1, 0, 7, -7}, {2, -5, 7, -35}, {2, 0, -7, 0},
            {3, 7, 2, 3}, {3, -7, 2, -3}, {3, 7, -2, -3}, {3, -7, -2, 3}, {3, -1, 2, 0}, {3, 0, 5, 0},
            {4, 7, 2, 1}, {4, -7, 2, -1}, {4, 7, -2, 1}, {4, -7, -2, -1}, {4, -6, 2, 0}, {4, 3, 5, 3},
            {5, 7, 5, 2}, {5, -7, 5, 3}, {5, -5, 5, 0}, {5, 0, 5, 0}, {5, 9, 1, 0},
            {6, 12, -18, 6}, {6, 0, 0, 0}, {6, 0, -7, 7}, {6, -7, 0, 7}, {6, 17, 5, 1},
            {7, 3, 7, 5}, {7, -3, 7, 2}, {7, 10, 7, 5}, {7, 0, 1, 0}, {7, 5, 1, 0}, {7, -1, 2, 1},
            {8, -4, 7, 4}, {8, -4, -6, -8}, {8, 12, 10, 8}, {8, 12, 0, 0}, {9, -4, 1, -3}, {9, 12, 10, 14}, {9, -8, -3, -3},
            {10, -4, 7, -5}, {10, -4, -4, 0}, {10, 12, 10, 6}, {10, -1, 0, -1}, {11, 12, 10, 4}, {11, -1, 7, -8},
            {11, 7, -4, 3}, {11, -8, -3, 0}, {11, -4, 3, -4},
        };
        House h = new House();
        for (long[] row : rows) {
            h.x.put(0, 1, row[1]);
            h.x.put(0, 2, row[2]);
            h.x.whole((int) row[0], 1, 2, 3);
            House.due("whole " + row[0] + " of " + row[1] + " and " + row[2], h.getWhole(3), row[3]);
            House.due("a stays", h.x.told(0, 1, 0), row[1]);
            House.due("b stays", h.x.told(0, 2, 0), row[2]);
        }
        sameRegister();
        edges();
        wrongCalls();
        House.end();
    }

    private static void sameRegister() {
        long[] want = {18, 0, 81, 1, 0, 0, 9, -1, 9, 9, 0, 0};
        for (int how = 0; how < 12; how++) {
            int which = how;
            House h = new House();
            h.x.put(0, 0, 9);
            if (how == 7) {
                House.due("9 has no inverse modulo 9", House.thrown(() -> h.x.whole(which, 0, 0, 0)), House.ARITHMETIC);
            } else {
                h.x.whole(how, 0, 0, 0);
                House.due("whole " + how + " of 9 with itself", h.getWhole(0), want[how]);
            }
        }
    }

    private static void edges() {
        House h = new House();
        h.setWhole(0, MOST);
        h.x.put(0, 1, 1);
        h.setWhole(2, MOST.negate());
        h.refuses("one more than the greatest", House.ARITHMETIC, () -> h.x.whole(0, 0, 1, 3));
        h.refuses("one less than the least", House.ARITHMETIC, () -> h.x.whole(1, 2, 1, 3));
        h.refuses("the greatest twice", House.ARITHMETIC, () -> h.x.whole(0, 0, 0, 0));
        h.refuses("its square", House.ARITHMETIC, () -> h.x.whole(2, 0, 2, 3));
        h.x.whole(0, 0, 2, 3);
        House.due("the greatest and the least", h.getWhole(3), 0);
        h.x.whole(3, 2, 1, 3);
        House.due("the least by 1", h.getWhole(3), MOST.negate());
        h.x.put(0, 1, -1);
        h.x.whole(2, 0, 1, 3);
        House.due("the greatest times -1", h.getWhole(3), MOST.negate());
        h.setWhole(4, House.two(2047).negate());
        h.refuses("a power of 2 that is too great", House.ARITHMETIC, () -> h.x.whole(8, 2, 4, 3));
        h.x.whole(9, 2, 4, 5);
        House.due("bits of both", h.getWhole(5), MOST.negate().or(House.two(2047).negate()));
        h.setWhole(4, MOST.subtract(BigInteger.ONE).negate());
        h.refuses("a power too great", House.ARITHMETIC, () -> h.x.whole(8, 2, 4, 3));
        h.refuses("all bits turned are one too many", House.ARITHMETIC, () -> h.x.whole(10, 0, 1, 3));
    }

    private static void wrongCalls() {
        House h = new House();
        h.x.put(0, 1, 4);
        h.x.put(0, 2, -4);
        h.x.put(0, 3, 6);
        h.refuses("quotient by 0", House.ARITHMETIC, () -> h.x.whole(3, 1, 0, 5));
        h.refuses("rest by 0", House.ARITHMETIC, () -> h.x.whole(4, 1, 0, 5));
        h.refuses("modulo 0", House.ARITHMETIC, () -> h.x.whole(5, 1, 0, 5));
        h.refuses("modulo below 0", House.ARITHMETIC, () -> h.x.whole(5, 1, 2, 5));
        h.refuses("inverse modulo 0", House.ARITHMETIC, () -> h.x.whole(7, 1, 0, 5));
        h.refuses("inverse modulo below 0", House.ARITHMETIC, () -> h.x.whole(7, 3, 2, 5));
        h.x.put(0, 4, 1);
        h.refuses("inverse of 1 modulo 0", House.ARITHMETIC, () -> h.x.whole(7, 4, 0, 5));
        h.refuses("no inverse", House.ARITHMETIC, () -> h.x.whole(7, 1, 3, 5));
        h.refuses("no inverse of 0", House.ARITHMETIC, () -> h.x.whole(7, 0, 3, 5));
        int[][] calls = {{-1, 0, 0, 0}, {12, 0, 0, 0}, {0, -1, 0, 0}, {0, 0, 10, 0}, {0, 0, 0, 10}, {3, 0, 0, -1}};
        for (int[] call : calls) {
            h.refuses("whole " + call[0] + " " + call[1] + " " + call[2] + " " + call[3], House.ILLEGAL_ARGUMENT,
                    () -> h.x.whole(call[0], call[1], call[2], call[3]));
        }
    }
}
