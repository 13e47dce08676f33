import java.math.BigInteger;

/** The edges of wholes that the document's Terms name: their size, quotient, rest, modulo, bits and texts. */
public final class EdgeWholesTest {
    private static final BigInteger ONE = BigInteger.ONE;
    private static final BigInteger MOST = House.two(2048).subtract(ONE);
    private static final BigInteger LEAST = MOST.negate();
    private static final String LETTERS = "0123456789abcdefghijklmnopqrstuvwxyz";

    public static void main(String[] args) {
        sizeOfSums();
        sizeOfProducts();
        sizeOfPowers();
        sizeOfBits();
        sizeOfWhatIsSmaller();
        sizeOfWhatIsRead();
        sizeOfWhatIsConverted();
        quotientAndRest();
        quotientByHardDivisors();
        modulo();
        bits();
        digitsOfEachBase();
        signs();
        largeLetters();
        written();
        House.end();
    }

    private static BigInteger of(long value) {
        return BigInteger.valueOf(value);
    }

    /** The answer that is due, or nothing for one that no register can have. */
    private static void whole(int how, BigInteger a, BigInteger b, BigInteger want) {
        Twins.Setup setup = Twins.furnished(h -> {
            h.setWhole(1, a);
            h.setWhole(2, b);
        });
        String what = "whole " + how + " of " + a + " and " + b;
        if (want == null) {
            Twins.refuses(what, House.ARITHMETIC, setup, x -> x.whole(how, 1, 2, 3));
            Twins.refuses(what + " in place", House.ARITHMETIC, setup, x -> x.whole(how, 1, 2, 1));
            return;
        }
        House h = new House();
        setup.make(h);
        h.x.whole(how, 1, 2, 3);
        House.due(what, h.getWhole(3), want);
    }

    private static void by(int how, BigInteger a, int n, BigInteger want) {
        Twins.Setup setup = Twins.furnished(h -> h.setWhole(1, a));
        String what = "wholeBy " + how + " of " + a + " by " + n;
        if (want == null) {
            Twins.refuses(what, House.ARITHMETIC, setup, x -> x.wholeBy(how, 1, n, 3));
            return;
        }
        House h = new House();
        setup.make(h);
        h.x.wholeBy(how, 1, n, 3);
        House.due(what, h.getWhole(3), want);
    }

    private static void sizeOfSums() {
        House.sentence("WHOLES are integers of a SIZE (without sign) below 2 to the 2048.");
        whole(0, MOST, BigInteger.ZERO, MOST);
        whole(0, MOST.subtract(ONE), ONE, MOST);
        whole(0, MOST, ONE, null);
        whole(0, House.two(2047), House.two(2047).subtract(ONE), MOST);
        whole(0, House.two(2047), House.two(2047), null);
        whole(0, MOST, MOST, null);
        whole(0, LEAST.add(ONE), ONE.negate(), LEAST);
        whole(0, LEAST, ONE.negate(), null);
        whole(0, LEAST, LEAST, null);
        whole(1, LEAST.add(ONE), ONE, LEAST);
        whole(1, LEAST, ONE, null);
        whole(1, MOST.subtract(ONE), ONE.negate(), MOST);
        whole(1, MOST, ONE.negate(), null);
        whole(1, MOST, LEAST, null);
        whole(1, MOST, MOST, BigInteger.ZERO);
    }

    private static void sizeOfProducts() {
        House.sentence("WHOLES are integers of a SIZE (without sign) below 2 to the 2048.");
        BigInteger low = House.two(1024).subtract(ONE);
        BigInteger high = House.two(1024).add(ONE);
        whole(2, low, high, MOST);
        whole(2, low.negate(), high, LEAST);
        whole(2, House.two(1024), House.two(1024), null);
        whole(2, House.two(1024).negate(), House.two(1024), null);
        whole(2, House.two(1024), low, House.two(2048).subtract(House.two(1024)));
        whole(2, MOST, ONE.negate(), LEAST);
        whole(2, MOST, BigInteger.TWO, null);
        whole(2, LEAST, BigInteger.TWO, null);
        whole(2, House.two(2046), BigInteger.TWO, House.two(2047));
        whole(2, House.two(2047), BigInteger.TWO, null);
        whole(2, MOST, BigInteger.ZERO, BigInteger.ZERO);
        whole(2, LEAST, LEAST, null);
    }

    private static void sizeOfPowers() {
        House.sentence("WHOLES are integers of a SIZE (without sign) below 2 to the 2048.");
        by(0, of(2), 2047, House.two(2047));
        by(0, of(2), 2048, null);
        by(0, of(-2), 2047, House.two(2047).negate());
        by(0, of(-2), 2048, null);
        by(0, of(3), 1292, of(3).pow(1292));
        by(0, of(3), 1293, null);
        by(0, House.two(1024).subtract(ONE), 2, House.two(1024).subtract(ONE).pow(2));
        by(0, House.two(1024), 2, null);
        by(0, MOST, 1, MOST);
        by(0, LEAST, 2, null);
        by(2, ONE, 2047, House.two(2047));
        by(2, ONE, 2048, null);
        by(2, ONE.negate(), 2047, House.two(2047).negate());
        by(2, ONE.negate(), 2048, null);
        by(2, House.two(2047).subtract(ONE), 1, MOST.subtract(ONE));
        by(2, House.two(2047), 1, null);
        by(2, BigInteger.ZERO, Integer.MAX_VALUE, BigInteger.ZERO);
        by(2, ONE, Integer.MAX_VALUE, null);
    }

    private static void sizeOfBits() {
        House.sentence("WHOLES are integers of a SIZE (without sign) below 2 to the 2048.");
        whole(8, LEAST, ONE.negate(), LEAST);
        whole(8, LEAST, House.two(2047).negate(), null);
        whole(8, LEAST, LEAST.add(ONE), null);
        whole(8, House.two(2047).negate(), House.two(2047).negate(), House.two(2047).negate());
        whole(9, MOST, ONE.negate(), ONE.negate());
        whole(9, LEAST, ONE, LEAST);
        whole(10, MOST.subtract(ONE), ONE.negate(), LEAST);
        whole(10, MOST, ONE.negate(), null);
        whole(10, ONE.negate(), MOST, null);
        whole(11, ONE.negate(), MOST.subtract(ONE), LEAST);
        whole(11, ONE.negate(), MOST, null);
        whole(11, MOST, ONE.negate(), BigInteger.ZERO);
        whole(11, LEAST, ONE, null);
    }

    private static void sizeOfWhatIsSmaller() {
        House.sentence("WHOLES are integers of a SIZE (without sign) below 2 to the 2048.");
        whole(3, LEAST, ONE, LEAST);
        whole(3, LEAST, ONE.negate(), MOST);
        whole(4, LEAST, House.two(2047), LEAST.add(House.two(2047)));
        whole(5, LEAST, MOST, BigInteger.ZERO);
        whole(5, ONE.negate(), MOST, MOST.subtract(ONE));
        whole(6, LEAST, BigInteger.ZERO, MOST);
        whole(6, LEAST, MOST, MOST);
        whole(7, ONE.negate(), MOST, MOST.subtract(ONE));
        by(1, MOST, 1, MOST);
        by(1, MOST, 2, House.two(1024).subtract(ONE));
    }

    private static void sizeOfWhatIsRead() {
        House.sentence("WHOLES are integers of a SIZE (without sign) below 2 to the 2048.");
        for (int base = 2; base <= 36; base++) {
            int to = base;
            for (String sign : new String[] {"", "+", "-"}) {
                House h = new House();
                House.due("the greatest to " + base, h.reads(0, 1, base, sign + MOST.toString(base)), true);
                House.due("it is", h.getWhole(1), sign.equals("-") ? LEAST : MOST);
                Twins.refuses("one more to " + base, House.ARITHMETIC, Twins.withTape(sign + House.two(2048).toString(base)),
                        x -> x.read(0, 1, to));
            }
        }
    }

    private static void sizeOfWhatIsConverted() {
        House.sentence("WHOLES are integers of a SIZE (without sign) below 2 to the 2048.");
        for (String sign : new String[] {"", "-"}) {
            House h = new House();
            House.due("a decimal", h.reads(1, 1, 10, sign + MOST + ".99"), true);
            h.x.convert(1, 1, 0, 2);
            House.due("a whole from it", h.getWhole(2), sign + MOST);
            Twins.refuses("one more", House.ARITHMETIC, Twins.furnished(g -> g.reads(1, 1, 10, sign + House.two(2048))),
                    x -> x.convert(1, 1, 0, 2));
            Twins.refuses("many more", House.ARITHMETIC, Twins.furnished(g -> g.reads(1, 1, 10, sign + "1e10000")),
                    x -> x.convert(1, 1, 0, 2));
        }
    }

    private static void quotientAndRest() {
        House.sentence("The QUOTIENT of a and b, b not 0, is a divided by b, rounded towards 0; the REST is a less b times the quotient.");
        long[][] rows = {
            // a, b, quotient, rest
            {6, 7, 0, 6}, {7, 7, 1, 0}, {8, 7, 1, 1}, {13, 7, 1, 6}, {14, 7, 2, 0},
            {-6, 7, 0, -6}, {-7, 7, -1, 0}, {-8, 7, -1, -1}, {-13, 7, -1, -6}, {-14, 7, -2, 0},
            {6, -7, 0, 6}, {7, -7, -1, 0}, {8, -7, -1, 1}, {-6, -7, 0, -6}, {-7, -7, 1, 0}, {-8, -7, 1, -1},
            {0, 7, 0, 0}, {0, -7, 0, 0}, {5, 1, 5, 0}, {5, -1, -5, 0}, {-1, 2, 0, -1}, {1, -2, 0, 1},
        };
        for (long[] row : rows) {
            whole(3, of(row[0]), of(row[1]), of(row[2]));
            whole(4, of(row[0]), of(row[1]), of(row[3]));
        }
        whole(3, MOST, MOST, ONE);
        whole(3, MOST.subtract(ONE), MOST, BigInteger.ZERO);
        whole(4, MOST.subtract(ONE).negate(), MOST, MOST.subtract(ONE).negate());
        whole(3, of(5), BigInteger.ZERO, null);
        whole(4, of(5), BigInteger.ZERO, null);
        whole(3, BigInteger.ZERO, BigInteger.ZERO, null);
        whole(4, BigInteger.ZERO, BigInteger.ZERO, null);
    }

    /** Parts of all ones, or of one bit alone, at which a guess of a figure of the quotient is farthest off. */
    private static void quotientByHardDivisors() {
        House.sentence("The QUOTIENT of a and b, b not 0, is a divided by b, rounded towards 0; the REST is a less b times the quotient.");
        java.util.Random random = new java.util.Random(31);
        for (int part : new int[] {31, 32, 62}) {
            for (int i = 0; i < 1000; i++) {
                BigInteger b = hard(random, part, 1 + i % 4).add(ONE);
                BigInteger quotient = hard(random, part, 1 + i % 3);
                BigInteger rest = i % 5 == 0 ? BigInteger.ZERO : i % 5 == 1 ? b.subtract(ONE) : hard(random, part, 3).mod(b);
                BigInteger a = b.multiply(quotient).add(rest);
                House h = new House();
                h.reads(0, 1, 36, a.toString(36));
                h.reads(0, 2, 36, b.toString(36));
                h.x.whole(3, 1, 2, 3);
                h.x.whole(4, 1, 2, 4);
                House.due("the quotient of " + a + " and " + b, h.printed(0, 3, 36), quotient.toString(36));
                House.due("the rest of " + a + " and " + b, h.printed(0, 4, 36), rest.toString(36));
            }
        }
    }

    private static BigInteger hard(java.util.Random random, int part, int parts) {
        BigInteger number = BigInteger.ZERO;
        BigInteger most = House.two(part).subtract(ONE);
        BigInteger half = House.two(part - 1);
        BigInteger[] choice = {most, most, half, half, BigInteger.ZERO, ONE, most.subtract(ONE), half.subtract(ONE), half.add(ONE)};
        for (int i = 0; i < parts; i++) {
            number = number.shiftLeft(part).add(choice[random.nextInt(choice.length)]);
        }
        return number;
    }

    private static void modulo() {
        House.sentence("x MODULO m, m above 0, is the integer 0 .. m - 1 from which x differs by a multiple of m.");
        long[][] rows = {
            {0, 7, 0}, {6, 7, 6}, {7, 7, 0}, {8, 7, 1}, {-1, 7, 6}, {-6, 7, 1}, {-7, 7, 0}, {-8, 7, 6}, {5, 1, 0}, {-5, 1, 0}, {0, 1, 0},
            {1, 2, 1}, {-1, 2, 1}, {-2, 2, 0},
        };
        for (long[] row : rows) {
            whole(5, of(row[0]), of(row[1]), of(row[2]));
        }
        whole(5, MOST, MOST, BigInteger.ZERO);
        whole(5, MOST.subtract(ONE), MOST, MOST.subtract(ONE));
        whole(5, LEAST.add(ONE), MOST, ONE);
        whole(5, of(7), BigInteger.ZERO, null);
        whole(5, of(7), ONE.negate(), null);
        whole(5, BigInteger.ZERO, BigInteger.ZERO, null);
        whole(5, of(7), LEAST, null);
    }

    private static void bits() {
        House.sentence("BIT i of an integer a is 1 if a divided by 2 to the i, rounded to the next integer that is not greater, is odd, else 0.");
        int[] places = {0, 1, 30, 31, 61, 62, 63, 64, 92, 93, 2046, 2047};
        for (int i : places) {
            BigInteger bit = House.two(i);
            whole(8, ONE.negate(), bit, bit);
            whole(8, bit.negate(), bit, bit);
            whole(8, bit.negate(), bit.subtract(ONE), BigInteger.ZERO);
            whole(8, bit.negate().subtract(ONE), bit, BigInteger.ZERO);
            whole(9, bit.subtract(ONE), bit.negate(), ONE.negate());
            whole(9, bit.subtract(ONE), bit, bit.add(bit).subtract(ONE));
            whole(10, bit, bit.negate(), i == 2047 ? null : bit.add(bit).negate());
            whole(10, bit.subtract(ONE), ONE.negate(), bit.negate());
            whole(11, ONE.negate(), bit, bit.negate().subtract(ONE));
            whole(11, bit, bit.negate(), BigInteger.ZERO);
        }
    }

    private static void digitsOfEachBase() {
        House.sentence("Their TEXTS to a base 2 .. 36 have the digits 0 .. 9 and then the letters from a on");
        for (int base = 2; base <= 36; base++) {
            int to = base;
            House h = new House();
            String last = LETTERS.substring(base - 1, base);
            House.due("the last digit to " + base, h.reads(0, 1, base, last) && h.x.told(0, 1, 0) == base - 1, true);
            House.due("it is written", h.printed(0, 1, base), last);
            House.due("ten is read", h.reads(0, 1, base, "10") && h.x.told(0, 1, 0) == base, true);
            House.due("ten is written", h.printed(0, 1, base), "10");
            for (int digit = base; digit < 36; digit++) {
                String text = LETTERS.substring(digit, digit + 1);
                Twins.answers(text + " to " + base, 0, Twins.withTape(text), x -> x.read(0, 1, to) ? 1 : 0);
                House.due("large " + text, h.reads(0, 1, base, text.toUpperCase()), false);
                House.due("it stands behind", h.reads(0, 1, base, "1" + text), false);
                House.due("it stands before", h.reads(0, 1, base, text + "1"), false);
            }
        }
        House h = new House();
        for (int c = 0; c < 256; c++) {
            boolean digit = c >= '0' && c <= '9' || c >= 'a' && c <= 'z' || c >= 'A' && c <= 'Z';
            House.due("the character " + c, h.reads(0, 1, 36, String.valueOf((char) c)), digit);
        }
    }

    private static void signs() {
        House.sentence("read, perhaps, a sign, + or -, then one digit or more");
        String[] good = {"7", "+7", "-7", "07", "+07", "-0007"};
        for (String text : good) {
            House h = new House();
            House.due("read " + text, h.reads(0, 1, 10, text), true);
            House.due("it is", h.getWhole(1), text.startsWith("-") ? -7 : 7);
        }
        String[] bad = {"", "+", "-", "++7", "--7", "+-7", "-+7", "7+", "7-", " 7", "7 ", "- 7", "7\0", "\0007", "7.", ".7", "7e1", "0x7"};
        for (String text : bad) {
            Twins.answers("read " + text, 0, Twins.withTape(text), x -> x.read(0, 1, 10) ? 1 : 0);
        }
    }

    private static void largeLetters() {
        House.sentence("large letters as small ones");
        for (int i = 10; i < 36; i++) {
            House h = new House();
            String letter = LETTERS.substring(i, i + 1);
            House.due("small " + letter, h.reads(0, 1, 36, letter) && h.x.told(0, 1, 0) == i, true);
            House.due("large " + letter, h.reads(0, 1, 36, letter.toUpperCase()) && h.x.told(0, 1, 0) == i, true);
            House.due("they are small when written", h.printed(0, 1, 36), letter);
        }
    }

    private static void written() {
        House.sentence("written, - if it is below 0, small letters, no 0 before the first digit but that of 0");
        House h = new House();
        House.due("zeros are read", h.reads(0, 1, 16, "-000aBc0"), true);
        House.due("and not written", h.printed(0, 1, 16), "-abc0");
        House.due("0 is read", h.reads(0, 1, 10, "-000"), true);
        House.due("as one digit without a sign", h.printed(0, 1, 10), "0");
        for (int base = 2; base <= 36; base++) {
            h.x.put(0, 1, 0);
            House.due("0 to " + base, h.printed(0, 1, base), "0");
            h.x.put(0, 1, -1);
            House.due("-1 to " + base, h.printed(0, 1, base), "-1");
            for (int power = 1; power < 2048; power += 211) {
                BigInteger round = of(base).pow(Math.min(power, 390));
                h.setWhole(1, round);
                House.due("a power of " + base, h.printed(0, 1, base), round.toString(base));
                h.setWhole(1, ONE.subtract(round));
                House.due("one less", h.printed(0, 1, base), ONE.subtract(round).toString(base));
            }
        }
    }
}
