import java.util.Arrays;

/**
 * The numeric text stack of a language: wholes, decimals, floats, and a printer by directives.
 *
 * <p>All memory is made by the constructor, and every worker computes in scratch numbers, so that a
 * call that throws leaves registers, tape, paper and arguments as they were.
 */
public final class NumberHouse {
    public static final int NONE = -1;

    private static final int REGISTERS = 10;
    private static final int TAPE_ROOM = 4100;
    private static final int PAPER_ROOM = 11008;
    private static final int FORMAT_ROOM = 256;
    private static final int WHOLE_BITS = 2048;
    private static final int WHOLE_LIMBS = 68;
    private static final int DECIMAL_LIMBS = 108;
    private static final int MOST_FIGURES = 1000;
    private static final int MOST_SCALE = 10000;

    private static final int WHOLES = 0;
    private static final int DECIMALS = 1;
    private static final int WIDE = 2;
    private static final int NARROW = 3;

    private final Sheet tape = new Sheet(TAPE_ROOM);
    private final Sheet paper = new Sheet(PAPER_ROOM);
    private final Big[] wholes = new Big[REGISTERS];
    private final Dec[] decimals = new Dec[REGISTERS];
    private final long[] wide = new long[REGISTERS];
    private final long[] narrow = new long[REGISTERS];
    private final Mill mill = new Mill();
    private final DecimalWork decimalWork = new DecimalWork(mill);
    private final Floats wideFloats = new Floats(52, 1075, 2047, mill);
    private final Floats narrowFloats = new Floats(23, 150, 255, mill);
    private final Digits digits = new Digits();
    private final Reader reader = new Reader(tape, mill);
    private final Writer writer = new Writer(paper, mill, digits);
    private final Printer printer = new Printer(tape, digits);

    public NumberHouse() {
        for (int i = 0; i < REGISTERS; i++) {
            wholes[i] = new Big(WHOLE_LIMBS);
            decimals[i] = new Dec(DECIMAL_LIMBS);
        }
    }

    public int feed(int n, long bytes) throws IllegalArgumentException {
        need(n >= 1 && n <= 8);
        if (tape.size + n > TAPE_ROOM) {
            return NONE;
        }
        for (int i = 0; i < n; i++) {
            tape.add((int) (bytes >>> (8 * i)) & 255);
        }
        return tape.size;
    }

    public int wipe() {
        int had = tape.size;
        tape.clear();
        return had;
    }

    public boolean read(int kind, int to, int base) throws IllegalArgumentException, ArithmeticException {
        needRegister(kind, to);
        need(kind == WHOLES ? base >= 2 && base <= 36 : base == 10);
        int found;
        if (kind == WHOLES) {
            found = reader.wholeText(base);
        } else if (kind == DECIMALS) {
            found = reader.decimalText();
        } else {
            found = reader.floatText(floatsOf(kind));
        }
        if (found == Reader.NO_TEXT) {
            return false;
        }
        canHave(found == Reader.READ);
        if (kind == WHOLES) {
            wholes[to].copy(mill.number);
        } else if (kind == DECIMALS) {
            canHave(decimalWork.settle(mill.number, reader.scale, decimals[to]));
        } else {
            floatRow(kind)[to] = reader.bits;
        }
        tape.clear();
        return true;
    }

    public void put(int kind, int to, long value) throws IllegalArgumentException {
        needRegister(kind, to);
        need(kind != NARROW || value >>> 32 == 0);
        if (kind == WHOLES) {
            wholes[to].setLong(value);
        } else if (kind == DECIMALS) {
            mill.number.setLong(value);
            decimalWork.settle(mill.number, 0, decimals[to]);
        } else {
            floatRow(kind)[to] = value;
        }
    }

    public long told(int kind, int a, int what) throws IllegalArgumentException, ArithmeticException {
        needRegister(kind, a);
        need(what >= 0);
        if (kind == WHOLES) {
            need(what <= 4);
            return tellWhole(wholes[a], what);
        }
        if (kind == DECIMALS) {
            need(what <= 2 || what - 3 < decimals[a].figureCount);
            return tellDecimal(decimals[a], what);
        }
        need(what <= 2);
        long bits = floatRow(kind)[a];
        if (what == 0) {
            return bits;
        }
        Floats floats = floatsOf(kind);
        canHave(floats.isFinite(bits));
        floats.findShortest(bits);
        return what == 1 ? floats.shortNumber : floats.shortPower;
    }

    public int compare(int kind, int a, int b) throws IllegalArgumentException, ArithmeticException {
        needRegister(kind, a);
        needRegister(kind, b);
        if (kind == WHOLES) {
            return wholes[a].order(wholes[b]);
        }
        if (kind == DECIMALS) {
            return decimalWork.order(decimals[a], decimals[b]);
        }
        Floats floats = floatsOf(kind);
        long first = floatRow(kind)[a];
        long second = floatRow(kind)[b];
        canHave(!floats.isNoNumber(first) && !floats.isNoNumber(second));
        return Long.compare(floats.place(first), floats.place(second));
    }

    public void whole(int how, int a, int b, int to) throws IllegalArgumentException, ArithmeticException {
        need(how >= 0 && how <= 11 && isRegister(a) && isRegister(b) && isRegister(to));
        Big first = wholes[a];
        Big second = wholes[b];
        if (how <= 2) {
            mill.addOrMultiply(how, first, second);
        } else if (how <= 4) {
            canHave(second.size > 0);
            mill.quotientOrRest(how == 3, first, second);
        } else if (how == 5) {
            canHave(second.sign() > 0);
            mill.modulo(first, second, mill.number);
        } else if (how == 6) {
            mill.commonDivisor(first, second);
        } else if (how == 7) {
            canHave(second.sign() > 0);
            canHave(mill.inverse(first, second));
        } else {
            mill.mixBits(how, first, second);
        }
        keepWhole(to);
    }

    public void wholeBy(int how, int a, int n, int to) throws IllegalArgumentException, ArithmeticException {
        need(how >= 0 && how <= 2 && isRegister(a) && isRegister(to));
        need(how != 0 || n >= 0);
        need(how != 1 || n >= 1 && n <= 64);
        Big number = wholes[a];
        if (how == 0) {
            canHave(mill.power(number, n, WHOLE_BITS));
            mill.number.copy(mill.power);
        } else if (how == 1) {
            canHave(number.sign() >= 0);
            mill.root(number, n);
            mill.number.copy(mill.root);
        } else {
            canHave(mill.shifted(number, n));
        }
        keepWhole(to);
    }

    public void powerModulo(int a, int e, int m, int to) throws IllegalArgumentException, ArithmeticException {
        need(isRegister(a) && isRegister(e) && isRegister(m) && isRegister(to));
        canHave(wholes[m].sign() > 0);
        if (wholes[e].negative) {
            canHave(mill.inverse(wholes[a], wholes[m]));
        } else {
            mill.modulo(wholes[a], wholes[m], mill.number);
        }
        mill.powerBelow(wholes[e], wholes[m]);
        keepWhole(to);
    }

    public void decimal(int how, int a, int b, int to) throws IllegalArgumentException, ArithmeticException {
        need(how >= 0 && how <= 3 && isRegister(a) && isRegister(b) && isRegister(to));
        Dec first = decimals[a];
        Dec second = decimals[b];
        if (how <= 1) {
            canHave(decimalWork.sum(first, second, how == 1));
        } else if (how == 2) {
            decimalWork.multiply(first, second);
        } else {
            canHave(second.number.size > 0);
            decimalWork.rest(first, second);
        }
        keepDecimal(to);
    }

    public void decimalBy(int how, int a, int n, int to) throws IllegalArgumentException, ArithmeticException {
        need(how >= 0 && how <= 2 && isRegister(a) && isRegister(to));
        need(how != 0 || n >= 0 && n <= 999);
        if (how == 0) {
            canHave(decimalWork.raise(decimals[a], n));
        } else if (how == 1) {
            decimalWork.take(decimals[a]);
            decimalWork.scale -= n;
        } else {
            decimalWork.strip(decimals[a]);
        }
        keepDecimal(to);
    }

    public void divide(int a, int b, int to, int scale, int mode)
            throws IllegalArgumentException, ArithmeticException {
        need(isRegister(a) && isRegister(b) && isRegister(to) && isMode(mode) && isScale(scale));
        canHave(decimals[b].number.size > 0);
        canHave(decimalWork.divideToScale(decimals[a], decimals[b], scale, mode));
        keepDecimal(to);
    }

    public void quotient(int a, int b, int to, int precision, int mode)
            throws IllegalArgumentException, ArithmeticException {
        need(isRegister(a) && isRegister(b) && isRegister(to) && isMode(mode));
        need(precision >= 0 && precision <= MOST_FIGURES);
        canHave(decimals[b].number.size > 0);
        canHave(decimalWork.divideToPrecision(decimals[a], decimals[b], precision, mode));
        keepDecimal(to);
    }

    public void shape(int how, int a, int to, int n, int mode)
            throws IllegalArgumentException, ArithmeticException {
        need(how >= 0 && how <= 2 && isRegister(a) && isRegister(to) && isMode(mode));
        need(how == 0 ? isScale(n) : n >= 1 && n <= MOST_FIGURES);
        Dec from = decimals[a];
        if (how == 0) {
            canHave(decimalWork.divideToScale(from, decimalWork.one, n, mode));
        } else if (how == 1) {
            canHave(decimalWork.divideToPrecision(from, decimalWork.one, n, mode));
        } else {
            canHave(from.number.sign() >= 0);
            canHave(decimalWork.squareRoot(from, n, mode));
        }
        keepDecimal(to);
    }

    public void convert(int kind, int a, int toKind, int to)
            throws IllegalArgumentException, ArithmeticException {
        needRegister(kind, a);
        needRegister(toKind, to);
        if (toKind == WHOLES) {
            makeWhole(kind, a);
            keepWhole(to);
        } else if (toKind == DECIMALS) {
            makeDecimal(kind, a);
            keepDecimal(to);
        } else {
            floatRow(toKind)[to] = madeFloat(kind, a, floatsOf(toKind));
        }
    }

    public int print(int kind, int a, int style) throws IllegalArgumentException {
        needRegister(kind, a);
        if (kind == WHOLES) {
            need(style >= 2 && style <= 36);
            writer.wholeText(wholes[a], style);
        } else if (kind == DECIMALS) {
            need(style >= 0 && style <= 2);
            writer.decimalText(decimals[a], style);
        } else {
            need(style >= 0 && style <= 1);
            writer.floatText(floatsOf(kind), floatRow(kind)[a], style == 1);
        }
        return paper.size;
    }

    public int figures(int kind, int a, boolean scientific, int n, int way)
            throws IllegalArgumentException, ArithmeticException {
        need((kind == WIDE || kind == NARROW) && isRegister(a) && way >= 0 && way <= 3);
        need(scientific ? n >= 1 && n <= 800 : n >= 0 && n <= 1100);
        Floats floats = floatsOf(kind);
        long bits = floatRow(kind)[a];
        canHave(floats.isFinite(bits));
        writer.exactText(floats, bits, scientific, n, way);
        return paper.size;
    }

    public int argument(int kind, int a)
            throws IllegalArgumentException, ArithmeticException, IllegalStateException {
        need(kind == WHOLES || kind == DECIMALS || kind >= 4 && kind <= 8);
        need(kind > DECIMALS || isRegister(a));
        need(kind != 6 || a >= 0 && a <= 255);
        if (kind == 8) {
            printer.count = 0;
            return 0;
        }
        canHave(kind != WHOLES || wholes[a].fitsLong());
        canHave(kind != DECIMALS || printer.canTake(decimals[a]));
        if (kind == 7 && tape.size > Printer.TEXT_ROOM) {
            throw new IllegalStateException("the tape has more than 64 bytes");
        }
        if (printer.count >= Printer.MOST_ARGUMENTS) {
            return NONE;
        }
        addArgument(kind, a);
        return printer.count;
    }

    public int format() throws IllegalStateException {
        if (tape.size > FORMAT_ROOM) {
            throw new IllegalStateException("the tape has more than 256 bytes");
        }
        int answer = printer.run(paper);
        if (answer >= 0) {
            tape.clear();
        }
        return answer;
    }

    public long paperAt(int i) {
        long answer = 0;
        for (int k = 0; k < 8; k++) {
            answer |= (long) paper.at((long) i + k) << (8 * k);
        }
        return answer;
    }

    private void addArgument(int kind, int a) {
        if (kind == WHOLES) {
            printer.addNumber(Printer.WHOLE, wholes[a].toLong(), 0);
        } else if (kind == DECIMALS) {
            printer.addNumber(Printer.DECIMAL, decimals[a].number.toLong(), decimals[a].scale);
        } else if (kind == 4) {
            printer.addNumber(Printer.NOTHING, 0, 0);
        } else if (kind == 5) {
            printer.addNumber(Printer.TRUTH, a == 0 ? 0 : 1, 0);
        } else if (kind == 6) {
            printer.addNumber(Printer.CHARACTER, a, 0);
        } else {
            printer.addText();
            tape.clear();
        }
    }

    private long tellWhole(Big number, int what) {
        switch (what) {
            case 0:
                return number.toLong();
            case 1:
                return number.sign();
            case 2:
                return number.lengthInBits();
            case 3:
                return number.otherBits();
            default:
                return number.size == 0 ? NONE : number.lowestOne();
        }
    }

    private long tellDecimal(Dec number, int what) {
        if (what == 0) {
            return number.number.sign();
        }
        if (what == 1) {
            return number.scale;
        }
        if (what == 2) {
            return number.figureCount;
        }
        mill.number.copy(number.number);
        digits.fill(mill.number, 0);
        return digits.figure(what - 3);
    }

    private void makeWhole(int kind, int a) {
        if (kind == WHOLES) {
            mill.number.copy(wholes[a]);
        } else if (kind == DECIMALS) {
            canHave(decimalWork.towardsZero(decimals[a]));
        } else {
            Floats floats = floatsOf(kind);
            long bits = floatRow(kind)[a];
            canHave(floats.isFinite(bits));
            floats.towardsZero(bits);
        }
    }

    private void makeDecimal(int kind, int a) {
        if (kind == DECIMALS) {
            decimalWork.take(decimals[a]);
        } else if (kind == WHOLES) {
            mill.number.copy(wholes[a]);
            decimalWork.scale = 0;
        } else {
            Floats floats = floatsOf(kind);
            long bits = floatRow(kind)[a];
            canHave(floats.isFinite(bits));
            decimalWork.scale = floats.exactly(bits);
        }
    }

    private long madeFloat(int kind, int a, Floats to) {
        if (kind == WHOLES) {
            return to.nearest(wholes[a], 0, false) | to.signBit(wholes[a].negative);
        }
        if (kind == DECIMALS) {
            Dec from = decimals[a];
            return to.nearestDecimal(from.number, from.scale) | to.signBit(from.number.negative);
        }
        return to.changed(floatRow(kind)[a], floatsOf(kind));
    }

    private void keepWhole(int to) {
        canHave(mill.number.bitLength() <= WHOLE_BITS);
        wholes[to].copy(mill.number);
    }

    private void keepDecimal(int to) {
        canHave(decimalWork.settle(mill.number, decimalWork.scale, decimals[to]));
    }

    private Floats floatsOf(int kind) {
        return kind == WIDE ? wideFloats : narrowFloats;
    }

    private long[] floatRow(int kind) {
        return kind == WIDE ? wide : narrow;
    }

    private static boolean isRegister(int a) {
        return a >= 0 && a < REGISTERS;
    }

    private static boolean isMode(int mode) {
        return mode >= 0 && mode <= DecimalWork.NO_ROUNDING;
    }

    private static boolean isScale(int scale) {
        return scale >= -MOST_SCALE && scale <= MOST_SCALE;
    }

    private static void needRegister(int kind, int a) {
        need(kind >= WHOLES && kind <= NARROW && isRegister(a));
    }

    private static void need(boolean good) {
        if (!good) {
            throw new IllegalArgumentException("there is no such thing");
        }
    }

    private static void canHave(boolean good) {
        if (!good) {
            throw new ArithmeticException("no register can have that");
        }
    }

    /** A row of bytes, eight to a long, so that a long paper costs little of the room. */
    private static final class Sheet {
        final long[] cells;
        final int room;
        int size;

        Sheet(int room) {
            this.room = room;
            cells = new long[(room + 7) / 8];
        }

        void clear() {
            size = 0;
        }

        /** Bytes beyond the room are counted, not kept: who asks only how long a text is needs no more. */
        void add(int value) {
            if (size < room) {
                int shift = 8 * (size & 7);
                cells[size >> 3] = cells[size >> 3] & ~(255L << shift) | (long) (value & 255) << shift;
            }
            size++;
        }

        void addText(String text) {
            for (int i = 0; i < text.length(); i++) {
                add(text.charAt(i));
            }
        }

        void addTimes(int value, int times) {
            for (int i = 0; i < times; i++) {
                add(value);
            }
        }

        /** A power of 10, none of which has more than five figures here. */
        void addPower(int power, int leastFigures) {
            int above = Math.abs(power);
            int unit = 10000;
            for (int i = 5; i > 0; i--) {
                if (i <= leastFigures || above >= unit) {
                    add('0' + above / unit % 10);
                }
                unit = Math.max(unit / 10, 1);
            }
        }

        /** What was written from its last figure on stands in its order then. */
        void turn(int from) {
            int low = from;
            for (int high = size - 1; low < high; high--) {
                int value = at(low);
                replace(low, at(high));
                replace(high, value);
                low++;
            }
        }

        int at(long place) {
            if (place < 0 || place >= size || place >= room) {
                return 0;
            }
            return (int) (cells[(int) place >> 3] >>> (8 * ((int) place & 7))) & 255;
        }

        void replace(int place, int value) {
            if (place >= 0 && place < room) {
                cells[place >> 3] ^= (long) (at(place) ^ value & 255) << 8 * (place & 7);
            }
        }

        void cut(int length) {
            size = Math.min(size, length);
        }
    }

    /** An integer that changes in place: a sign, and its size in limbs of 31 bits, the lowest first. */
    private static final class Big {
        static final int LIMB = 31;
        static final int MASK = 0x7fffffff;
        private static final int[] TENS = {
            1, 10, 100, 1000, 10000, 100000, 1000000, 10000000, 100000000, 1000000000
        };
        private static final int[] FIVES = {
            1, 5, 25, 125, 625, 3125, 15625, 78125, 390625, 1953125, 9765625, 48828125, 244140625, 1220703125
        };

        final int[] limbs;
        int size;
        boolean negative;

        Big(int room) {
            limbs = new int[room];
        }

        void clear() {
            size = 0;
            negative = false;
        }

        void setLong(long value) {
            clear();
            long left = Math.abs(value);
            for (int i = 0; i < 3; i++) {
                push((int) (left & MASK));
                left >>>= LIMB;
            }
            trim();
            negative = value < 0;
        }

        void copy(Big other) {
            size = Math.min(other.size, limbs.length);
            System.arraycopy(other.limbs, 0, limbs, 0, size);
            negative = other.negative;
        }

        int limb(int i) {
            return i >= 0 && i < size ? limbs[i] : 0;
        }

        void push(int limb) {
            if (size < limbs.length) {
                limbs[size] = limb;
                size++;
            }
        }

        void trim() {
            int top = size;
            while (top > 0 && limbs[top - 1] == 0) {
                top--;
            }
            size = top;
            negative = negative && top > 0;
        }

        int sign() {
            return size == 0 ? 0 : negative ? -1 : 1;
        }

        boolean isOne() {
            return size == 1 && limbs[0] == 1 && !negative;
        }

        /** The lowest 64 bits of the integer, one below 0 being taken as itself with a power of 2. */
        long toLong() {
            long low = (long) limb(0) | (long) limb(1) << LIMB | (long) limb(2) << 2 * LIMB;
            return negative ? -low : low;
        }

        boolean fitsLong() {
            return lengthInBits() <= 63;
        }

        int bitLength() {
            return size == 0 ? 0 : (size - 1) * LIMB + bitsOf(limbs[size - 1]);
        }

        /** With every bit below the first one a one, there are as many ones as the size has bits. */
        static int bitsOf(int number) {
            int ones = number | number >>> 1;
            ones |= ones >>> 2;
            ones |= ones >>> 4;
            ones |= ones >>> 8;
            ones |= ones >>> 16;
            return Integer.bitCount(ones);
        }

        /** Just a power of 2 below 0 needs one bit less than its size has. */
        int lengthInBits() {
            int length = bitLength();
            return negative && lowestOne() == length - 1 ? length - 1 : length;
        }

        int lowestOne() {
            for (int i = 0; i < size; i++) {
                if (limbs[i] != 0) {
                    return i * LIMB + Integer.bitCount((limbs[i] & -limbs[i]) - 1);
                }
            }
            return 0;
        }

        /** For -a the bits are those of a - 1 turned over, so those of a - 1 are counted. */
        int otherBits() {
            int ones = 0;
            for (int i = 0; i < size; i++) {
                ones += Integer.bitCount(limbs[i]);
            }
            return negative ? ones - 1 + lowestOne() : ones;
        }

        int bit(int i) {
            return limb(i / LIMB) >>> (i % LIMB) & 1;
        }

        int lowestLimb() {
            int i = 0;
            while (i < size && limbs[i] == 0) {
                i++;
            }
            return i;
        }

        /** Limb i of the integer's endless row of bits. */
        int endlessLimb(int i, int lowest) {
            if (!negative) {
                return limb(i);
            }
            if (i < lowest) {
                return 0;
            }
            return (i == lowest ? -limb(i) : ~limb(i)) & MASK;
        }

        int order(Big other) {
            if (sign() != other.sign()) {
                return Integer.compare(sign(), other.sign());
            }
            int bySize = compareSize(other);
            return negative ? -bySize : bySize;
        }

        int compareSize(Big other) {
            if (size != other.size) {
                return Integer.compare(size, other.size);
            }
            for (int i = size - 1; i >= 0; i--) {
                if (limbs[i] != other.limbs[i]) {
                    return Integer.compare(limbs[i], other.limbs[i]);
                }
            }
            return 0;
        }

        /** this and other, or this less other. */
        void addSigned(Big other, boolean less) {
            boolean otherNegative = other.negative != less;
            if (other.size == 0) {
                return;
            }
            if (size == 0 || negative == otherNegative) {
                addSize(other);
                negative = otherNegative;
            } else if (compareSize(other) >= 0) {
                subtractSize(other);
            } else {
                subtractFrom(other);
                negative = otherNegative;
            }
        }

        void addSize(Big other) {
            int top = Math.min(Math.max(size, other.size), limbs.length);
            int carry = 0;
            for (int i = 0; i < top; i++) {
                int sum = limb(i) + other.limb(i) + carry;
                limbs[i] = sum & MASK;
                carry = sum >>> LIMB;
            }
            size = top;
            if (carry != 0) {
                push(carry);
            }
        }

        void subtractSize(Big other) {
            int borrow = 0;
            for (int i = 0; i < size; i++) {
                int difference = limbs[i] - other.limb(i) - borrow;
                limbs[i] = difference & MASK;
                borrow = difference >>> LIMB;
            }
            trim();
        }

        void subtractFrom(Big other) {
            int top = Math.min(other.size, limbs.length);
            int borrow = 0;
            for (int i = 0; i < top; i++) {
                int difference = other.limbs[i] - limb(i) - borrow;
                limbs[i] = difference & MASK;
                borrow = difference >>> LIMB;
            }
            size = top;
            trim();
        }

        /** The factor is above 0. */
        void multiplySmall(int factor, int plus) {
            long carry = plus;
            for (int i = 0; i < size; i++) {
                long part = (long) limbs[i] * factor + carry;
                limbs[i] = (int) (part & MASK);
                carry = part >>> LIMB;
            }
            if (carry != 0 && size < limbs.length) {
                limbs[size] = (int) carry;
                size++;
            }
        }

        int divideSmall(int divisor) {
            int by = Math.max(divisor, 1);
            long rest = 0;
            for (int i = size - 1; i >= 0; i--) {
                long part = rest << LIMB | limbs[i];
                limbs[i] = (int) (part / by);
                rest = part % by;
            }
            trim();
            return (int) rest;
        }

        void timesTen(int power) {
            for (int left = power; left > 0; left -= 9) {
                multiplySmall(TENS[Math.min(left, 9)], 0);
            }
        }

        void timesFive(int power) {
            for (int left = power; left > 0; left -= 13) {
                multiplySmall(FIVES[Math.min(left, 13)], 0);
            }
        }

        /** Divides by a power of 10 and tells whether something was lost. */
        boolean dropFigures(int power) {
            boolean lost = false;
            for (int left = power; left > 0 && size > 0; left -= 9) {
                lost |= divideSmall(TENS[Math.min(left, 9)]) != 0;
            }
            return lost;
        }

        void product(Big a, Big b) {
            int top = Math.min(a.size + b.size, limbs.length);
            Arrays.fill(limbs, 0, top, 0);
            for (int i = 0; i < a.size; i++) {
                int end = Math.min(b.size, top - i);
                long factor = a.limbs[i];
                long carry = 0;
                for (int j = 0; j < end; j++) {
                    long part = factor * b.limbs[j] + limbs[i + j] + carry;
                    limbs[i + j] = (int) (part & MASK);
                    carry = part >>> LIMB;
                }
                if (i + end < top) {
                    limbs[i + end] = (int) carry;
                }
            }
            size = top;
            negative = a.negative != b.negative;
            trim();
        }

        void shiftLeft(int n) {
            int far = n / LIMB;
            int near = n % LIMB;
            if (n <= 0 || size == 0 || far >= limbs.length) {
                return;
            }
            int top = Math.min(limbs.length, size + far + 1);
            for (int i = top - 1; i >= far; i--) {
                limbs[i] = (limb(i - far) << near | limb(i - far - 1) >>> (LIMB - near)) & MASK;
            }
            Arrays.fill(limbs, 0, far, 0);
            size = top;
            trim();
        }

        /** Divides its size by a power of 2 and tells whether something was lost. */
        boolean shiftRight(int n) {
            if (n <= 0 || size == 0) {
                return false;
            }
            boolean lost = lowestOne() < n;
            int far = n / LIMB;
            int near = n % LIMB;
            int top = Math.max(0, size - far);
            for (int i = 0; i < top; i++) {
                limbs[i] = (limb(i + far) >>> near | limb(i + far + 1) << (LIMB - near)) & MASK;
            }
            size = top;
            trim();
            return lost;
        }

        /** This becomes the rest, with its sign; the sizes alone are divided. */
        void divideBy(Big divisor, Big quotient) {
            quotient.clear();
            if (divisor.size == 0 || compareSize(divisor) < 0) {
                return;
            }
            if (divisor.size == 1) {
                divideByLimb(divisor.limbs[0], quotient);
                return;
            }
            int shift = LIMB - bitsOf(divisor.limbs[divisor.size - 1]);
            divisor.shiftLeft(shift);
            shiftLeft(shift);
            int places = size - divisor.size + 1;
            push(0);
            for (int i = places - 1; i >= 0; i--) {
                int figure = takeTimes(i, divisor);
                if (i < quotient.limbs.length) {
                    quotient.limbs[i] = figure;
                }
            }
            quotient.size = Math.min(places, quotient.limbs.length);
            quotient.trim();
            trim();
            shiftRight(shift);
            divisor.shiftRight(shift);
        }

        private void divideByLimb(int divisor, Big quotient) {
            boolean below = negative;
            quotient.copy(this);
            quotient.negative = false;
            int rest = quotient.divideSmall(divisor);
            setLong(rest);
            negative = below && rest != 0;
        }

        /** Takes the divisor away from place on as often as it goes, and answers how often. */
        private int takeTimes(int place, Big divisor) {
            int n = divisor.size;
            long times = guess(place + n, divisor);
            long owed = 0;
            for (int i = 0; i < n; i++) {
                owed += times * divisor.limbs[i];
                long left = limb(place + i) - (owed & MASK);
                owed = (owed >>> LIMB) + (left < 0 ? 1 : 0);
                limbs[place + i] = (int) (left & MASK);
            }
            long top = limb(place + n) - owed;
            if (place + n < limbs.length) {
                limbs[place + n] = (int) (top & MASK);
            }
            if (top >= 0) {
                return (int) times;
            }
            giveBack(place, divisor);
            return (int) times - 1;
        }

        /** From three limbs and the divisor's first two: right, or one too many. */
        private long guess(int top, Big divisor) {
            long first = divisor.limb(divisor.size - 1);
            long second = divisor.limb(divisor.size - 2);
            long head = (long) limb(top) << LIMB | limb(top - 1);
            long times = head / Math.max(first, 1);
            long rest = head - times * first;
            for (int i = 0; i < 2 && rest <= MASK; i++) {
                if (times <= MASK && times * second <= (rest << LIMB | limb(top - 2))) {
                    break;
                }
                times--;
                rest += first;
            }
            return times;
        }

        private void giveBack(int place, Big divisor) {
            int n = divisor.size;
            int carry = 0;
            for (int i = 0; i < n; i++) {
                int sum = limb(place + i) + divisor.limbs[i] + carry;
                limbs[place + i] = sum & MASK;
                carry = sum >>> LIMB;
            }
            if (place + n < limbs.length) {
                limbs[place + n] = limb(place + n) + carry & MASK;
            }
        }
    }

    /** The scratch numbers that all workers share, and the work on wholes; answers come in number. */
    private static final class Mill {
        static final int ROOM = 220;
        /** Far above the steps that the greatest numbers need. */
        private static final int MOST_STEPS = 10000;

        final Big number = new Big(ROOM);
        final Big quotient = new Big(ROOM);
        final Big power = new Big(ROOM);
        final Big root = new Big(ROOM);
        private final Big work = new Big(ROOM);
        private final Big spare = new Big(ROOM);
        final Big one = new Big(ROOM);
        final Big two = new Big(ROOM);
        final Big three = new Big(ROOM);
        final Big four = new Big(ROOM);

        void addOrMultiply(int how, Big a, Big b) {
            if (how == 2) {
                number.product(a, b);
            } else {
                number.copy(a);
                number.addSigned(b, how == 1);
            }
        }

        void quotientOrRest(boolean wantsQuotient, Big a, Big b) {
            number.copy(a);
            number.divideBy(b, quotient);
            if (wantsQuotient) {
                number.copy(quotient);
                number.negative = quotient.size > 0 && a.negative != b.negative;
            }
        }

        void modulo(Big a, Big m, Big out) {
            out.copy(a);
            out.divideBy(m, quotient);
            if (out.negative) {
                out.addSigned(m, false);
            }
        }

        void commonDivisor(Big a, Big b) {
            Big high = one;
            Big low = two;
            high.copy(a);
            low.copy(b);
            for (int step = 0; step < MOST_STEPS && low.size > 0; step++) {
                high.divideBy(low, quotient);
                Big swap = high;
                high = low;
                low = swap;
            }
            number.copy(high);
            number.negative = false;
        }

        /** Euclid's steps, with the factor of a that each rest has modulo m. */
        boolean inverse(Big a, Big m) {
            Big high = one;
            Big low = two;
            Big highFactor = three;
            Big lowFactor = four;
            high.copy(m);
            modulo(a, m, low);
            highFactor.clear();
            lowFactor.setLong(1);
            for (int step = 0; step < MOST_STEPS && low.size > 0; step++) {
                high.divideBy(low, quotient);
                work.product(quotient, lowFactor);
                highFactor.addSigned(work, true);
                Big swap = high;
                high = low;
                low = swap;
                swap = highFactor;
                highFactor = lowFactor;
                lowFactor = swap;
            }
            modulo(highFactor, m, number);
            return high.isOne();
        }

        /** The number, which is below m, to the size of e, modulo m. */
        void powerBelow(Big e, Big m) {
            power.setLong(1);
            power.divideBy(m, quotient);
            for (int i = e.bitLength() - 1; i >= 0; i--) {
                work.product(power, power);
                work.divideBy(m, quotient);
                if (e.bit(i) == 1) {
                    power.product(work, number);
                    power.divideBy(m, quotient);
                } else {
                    power.copy(work);
                }
            }
            number.copy(power);
        }

        /** The power comes in power; false as soon as it has more bits than it may. */
        boolean power(Big base, int n, int mostBits) {
            power.setLong(1);
            for (int i = Big.bitsOf(n) - 1; i >= 0; i--) {
                work.product(power, power);
                if (work.bitLength() > mostBits) {
                    return false;
                }
                if ((n >>> i & 1) == 1) {
                    power.product(work, base);
                } else {
                    power.copy(work);
                }
                if (power.bitLength() > mostBits) {
                    return false;
                }
            }
            return true;
        }

        /** Newton's steps fall from above to the root, so the first that does not fall ends them. */
        void root(Big a, int n) {
            root.copy(a);
            if (a.size == 0 || n == 1) {
                return;
            }
            root.setLong(1);
            root.shiftLeft((a.bitLength() + n - 1) / n);
            for (int step = 0; step < MOST_STEPS; step++) {
                power(root, n - 1, ROOM * Big.LIMB);
                one.copy(a);
                one.divideBy(power, quotient);
                two.copy(root);
                two.multiplySmall(n - 1, 0);
                two.addSize(quotient);
                two.divideSmall(n);
                if (two.compareSize(root) >= 0) {
                    return;
                }
                root.copy(two);
            }
        }

        boolean shifted(Big a, int n) {
            number.copy(a);
            if (n >= 0) {
                if (a.size > 0 && n > WHOLE_BITS) {
                    return false;
                }
                number.shiftLeft(n);
                return true;
            }
            int by = n < -WHOLE_BITS ? WHOLE_BITS : -n;
            if (number.shiftRight(by) && a.negative) {
                two.setLong(-1);
                number.addSigned(two, false);
            }
            return true;
        }

        void mixBits(int how, Big a, Big b) {
            int top = Math.max(a.size, b.size) + 1;
            int lowestOfA = a.lowestLimb();
            int lowestOfB = b.lowestLimb();
            boolean below = mixed(how, a.negative ? 1 : 0, b.negative ? 1 : 0) == 1;
            int carry = below ? 1 : 0;
            number.clear();
            for (int i = 0; i < top; i++) {
                int limb = mixed(how, a.endlessLimb(i, lowestOfA), b.endlessLimb(i, lowestOfB));
                int sum = (below ? ~limb & Big.MASK : limb) + carry;
                number.push(sum & Big.MASK);
                carry = sum >>> Big.LIMB;
            }
            number.trim();
            number.negative = below;
        }

        private static int mixed(int how, int a, int b) {
            switch (how) {
                case 8:
                    return a & b;
                case 9:
                    return a | b;
                case 10:
                    return a ^ b;
                default:
                    return a & ~b;
            }
        }

        /** How many figures a size has, 1 for 0: the guess from its bits may be too low, never too high. */
        int countFigures(Big of) {
            if (of.size == 0) {
                return 1;
            }
            int count = (int) ((of.bitLength() - 1) * 301029995L / 1000000000L) + 1;
            spare.setLong(1);
            spare.timesTen(count);
            for (int i = 0; i < 3 && of.compareSize(spare) >= 0; i++) {
                spare.multiplySmall(10, 0);
                count++;
            }
            return count;
        }

        /** Takes zeros at the end away, at most so many, and answers how many those were. */
        int dropZeros(Big from, long most) {
            int dropped = 0;
            for (; dropped < most && from.size > 0 && dropped < MOST_STEPS; dropped++) {
                spare.copy(from);
                if (spare.divideSmall(10) != 0) {
                    break;
                }
                from.copy(spare);
            }
            return dropped;
        }
    }

    /** A decimal: its number, its scale, and how many figures the number has. */
    private static final class Dec {
        final Big number;
        int scale;
        int figureCount = 1;

        Dec(int limbs) {
            number = new Big(limbs);
        }
    }

    /** The work on decimals; the number of an answer comes in the mill's number, its scale in scale. */
    private static final class DecimalWork {
        static final int NO_ROUNDING = 7;
        /** More bits than 1000 figures can have. */
        private static final int MOST_BITS = 3330;

        final Dec one = new Dec(3);
        long scale;
        private final Mill mill;
        private boolean lost;

        DecimalWork(Mill mill) {
            this.mill = mill;
            one.number.setLong(1);
        }

        boolean settle(Big number, long newScale, Dec to) {
            int count = mill.countFigures(number);
            if (count > MOST_FIGURES || newScale < -MOST_SCALE || newScale > MOST_SCALE) {
                return false;
            }
            to.number.copy(number);
            to.scale = (int) newScale;
            to.figureCount = count;
            return true;
        }

        void take(Dec a) {
            mill.number.copy(a.number);
            scale = a.scale;
        }

        /** Where the first figures stand decides far ones, so that near ones alone are brought to one scale. */
        int order(Dec a, Dec b) {
            if (a.number.sign() != b.number.sign() || a.number.size == 0) {
                return Integer.compare(a.number.sign(), b.number.sign());
            }
            int sign = a.number.sign();
            int topOfA = a.figureCount - a.scale;
            int topOfB = b.figureCount - b.scale;
            if (topOfA != topOfB) {
                return topOfA < topOfB ? -sign : sign;
            }
            mill.one.copy(a.number);
            mill.two.copy(b.number);
            mill.one.timesTen(b.scale - a.scale);
            mill.two.timesTen(a.scale - b.scale);
            return mill.one.order(mill.two);
        }

        /** A number that needs more than 1001 figures on the other's scale can't come back to 1000. */
        boolean sum(Dec a, Dec b, boolean less) {
            scale = Math.max(a.scale, b.scale);
            long raiseA = scale - a.scale;
            long raiseB = scale - b.scale;
            if (a.number.size > 0 && a.figureCount + raiseA > MOST_FIGURES + 1
                    || b.number.size > 0 && b.figureCount + raiseB > MOST_FIGURES + 1) {
                return false;
            }
            mill.number.copy(a.number);
            mill.number.timesTen((int) raiseA);
            mill.one.copy(b.number);
            mill.one.timesTen((int) raiseB);
            mill.number.addSigned(mill.one, less);
            return true;
        }

        void multiply(Dec a, Dec b) {
            mill.number.product(a.number, b.number);
            scale = (long) a.scale + b.scale;
        }

        void rest(Dec a, Dec b) {
            scale = Math.max(a.scale, b.scale);
            int raise = Math.abs(a.scale - b.scale);
            mill.number.copy(a.number);
            if (a.scale < b.scale) {
                raiseBelow(raise, b.number);
            } else if (a.figureCount >= b.figureCount + raise) {
                mill.one.copy(b.number);
                mill.one.timesTen(raise);
                mill.number.divideBy(mill.one, mill.quotient);
            }
        }

        /** The number times 10 to the raise may be far too long to be written out, so rests alone are kept. */
        private void raiseBelow(int raise, Big divisor) {
            boolean below = mill.number.negative;
            mill.one.setLong(1);
            mill.one.divideBy(divisor, mill.quotient);
            for (int i = Big.bitsOf(raise) - 1; i >= 0; i--) {
                mill.two.product(mill.one, mill.one);
                mill.two.timesTen(raise >>> i & 1);
                mill.two.divideBy(divisor, mill.quotient);
                mill.one.copy(mill.two);
            }
            mill.number.divideBy(divisor, mill.quotient);
            mill.two.product(mill.number, mill.one);
            mill.two.divideBy(divisor, mill.quotient);
            mill.number.copy(mill.two);
            mill.number.negative = below && mill.two.size > 0;
        }

        boolean raise(Dec a, int n) {
            scale = (long) a.scale * n;
            boolean fits = mill.power(a.number, n, MOST_BITS);
            mill.number.copy(mill.power);
            return fits;
        }

        void strip(Dec a) {
            take(a);
            scale = a.number.size == 0 ? 0 : scale - mill.dropZeros(mill.number, MOST_FIGURES);
        }

        boolean divideToScale(Dec a, Dec b, int newScale, int mode) {
            scale = newScale;
            int raise = newScale + b.scale - a.scale;
            if (a.number.size == 0) {
                mill.number.clear();
                return true;
            }
            if (a.figureCount + raise - b.figureCount > MOST_FIGURES) {
                return false;
            }
            divideRaised(a, b, raise + 1);
            return roundLast(a.number.negative != b.number.negative, mode);
        }

        boolean divideToPrecision(Dec a, Dec b, int precision, int mode) {
            long wish = (long) a.scale - b.scale;
            if (a.number.size == 0) {
                mill.number.clear();
                scale = wish;
                return true;
            }
            int most = precision == 0 ? MOST_FIGURES : precision;
            int raise = most + 1 - a.figureCount + b.figureCount;
            divideRaised(a, b, raise);
            scale = wish + raise - 1;
            if (mill.countFigures(mill.number) > most + 1) {
                lost |= mill.number.dropFigures(1);
                scale--;
            }
            boolean negative = a.number.negative != b.number.negative;
            return shorten(negative, most, wish, precision == 0 ? NO_ROUNDING : mode);
        }

        boolean squareRoot(Dec a, int precision, int mode) {
            int wish = Math.floorDiv(a.scale, 2);
            if (a.number.size == 0) {
                mill.number.clear();
                scale = wish;
                return true;
            }
            scale = precision - 1 - Math.floorDiv(a.figureCount - 1 - a.scale, 2);
            int raise = 2 * ((int) scale + 1) - a.scale;
            mill.number.copy(a.number);
            mill.number.timesTen(raise);
            lost = mill.number.dropFigures(-raise);
            mill.root(mill.number, 2);
            mill.one.product(mill.root, mill.root);
            lost |= mill.one.compareSize(mill.number) != 0;
            mill.number.copy(mill.root);
            return shorten(false, precision, wish, mode);
        }

        /** Towards 0; false if that has more figures than a whole can have. */
        boolean towardsZero(Dec a) {
            mill.number.copy(a.number);
            if (a.number.size > 0 && a.figureCount - a.scale > MOST_FIGURES) {
                return false;
            }
            if (a.number.size > 0) {
                mill.number.timesTen(-a.scale);
                mill.number.dropFigures(a.scale);
            }
            return true;
        }

        /** The size of a divided by b, times 10 to the raise, without what stands behind the point. */
        private void divideRaised(Dec a, Dec b, int raise) {
            mill.one.copy(a.number);
            mill.one.timesTen(raise);
            lost = mill.one.dropFigures(-raise);
            mill.one.divideBy(b.number, mill.quotient);
            lost |= mill.one.size > 0;
            mill.number.copy(mill.quotient);
        }

        /** The number has a figure more than is wanted: it goes, by the mode, or exactly towards the wish. */
        private boolean shorten(boolean negative, int precision, long wish, int mode) {
            mill.one.copy(mill.number);
            boolean exact = !lost && mill.one.divideSmall(10) == 0;
            if (!roundLast(negative, mode)) {
                return false;
            }
            if (exact) {
                scale -= mill.dropZeros(mill.number, scale - wish);
            } else if (mill.countFigures(mill.number) > precision) {
                mill.number.dropFigures(1);
                scale--;
            }
            return true;
        }

        /** Rounds the number to a multiple of 10 and divides by 10; lost tells of what stood behind it. */
        private boolean roundLast(boolean negative, int mode) {
            int last = mill.number.divideSmall(10);
            boolean inexact = last != 0 || lost;
            if (inexact && mode == NO_ROUNDING) {
                return false;
            }
            if (inexact && goesOutwards(last, negative, mode)) {
                mill.one.setLong(1);
                mill.number.addSize(mill.one);
            }
            mill.number.negative = negative && mill.number.size > 0;
            return true;
        }

        private boolean goesOutwards(int last, boolean negative, int mode) {
            boolean aboveHalf = last > 5 || last == 5 && lost;
            boolean half = last == 5 && !lost;
            switch (mode) {
                case 0:
                    return true;
                case 1:
                    return false;
                case 2:
                    return !negative;
                case 3:
                    return negative;
                case 4:
                    return aboveHalf || half;
                case 5:
                    return aboveHalf;
                default:
                    return aboveHalf || half && mill.number.bit(0) == 1;
            }
        }
    }

    /** One format of floats. */
    private static final class Floats {
        /** Far outside of what a float can have, as a power of 10 and of 2. */
        private static final int FAR = 400;
        private static final int FAR_BITS = 3000;
        /** So many bits of a quotient that what is behind them can't be half a step. */
        private static final int QUOTIENT_BITS = 70;
        private static final int MOST_SHORT_FIGURES = 20;

        final int fractionBits;
        final int bias;
        final int topExponent;
        long shortNumber;
        int shortPower;
        private final Mill mill;
        private int estimate;

        Floats(int fractionBits, int bias, int topExponent, Mill mill) {
            this.fractionBits = fractionBits;
            this.bias = bias;
            this.topExponent = topExponent;
            this.mill = mill;
        }

        int exponent(long bits) {
            return (int) (bits >>> fractionBits) & topExponent;
        }

        long fraction(long bits) {
            return bits & (1L << fractionBits) - 1;
        }

        boolean isNegative(long bits) {
            return (bits & signBit(true)) != 0;
        }

        boolean isFinite(long bits) {
            return exponent(bits) != topExponent;
        }

        boolean isNoNumber(long bits) {
            return !isFinite(bits) && fraction(bits) != 0;
        }

        boolean isZero(long bits) {
            return exponent(bits) == 0 && fraction(bits) == 0;
        }

        long signBit(boolean negative) {
            return negative ? ((long) topExponent + 1) << fractionBits : 0;
        }

        long infinity() {
            return (long) topExponent << fractionBits;
        }

        long noNumber() {
            return infinity() | 1L << fractionBits - 1;
        }

        /** Floats that are numbers stand in the order of these. */
        long place(long bits) {
            long size = bits & signBit(true) - 1;
            return isNegative(bits) ? -size : size;
        }

        /** The size is this number times 2 to the power. */
        long number(long bits) {
            return exponent(bits) == 0 ? fraction(bits) : fraction(bits) | 1L << fractionBits;
        }

        int power(long bits) {
            return Math.max(exponent(bits), 1) - bias;
        }

        void towardsZero(long bits) {
            int power = power(bits);
            mill.number.setLong(number(bits));
            mill.number.shiftLeft(power);
            mill.number.shiftRight(-power);
            mill.number.negative = mill.number.size > 0 && isNegative(bits);
        }

        /** The exact value comes in the mill's number; answers the least scale, not below 0, for it. */
        int exactly(long bits) {
            int power = power(bits);
            Big number = mill.number;
            number.setLong(number(bits));
            if (number.size == 0) {
                return 0;
            }
            int even = Math.min(number.lowestOne(), Math.max(0, -power));
            number.shiftRight(even);
            number.shiftLeft(power);
            int scale = Math.max(0, -power - even);
            number.timesFive(scale);
            number.negative = isNegative(bits);
            return scale;
        }

        long changed(long bits, Floats from) {
            if (from == this) {
                return bits;
            }
            if (from.isNoNumber(bits)) {
                return noNumber();
            }
            long sign = signBit(from.isNegative(bits));
            if (!from.isFinite(bits)) {
                return infinity() | sign;
            }
            mill.number.setLong(from.number(bits));
            return nearest(mill.number, from.power(bits), false) | sign;
        }

        /** The bits of the size times 2 to the power; more tells that it is a little above that. */
        long nearest(Big size, long power, boolean more) {
            int length = size.bitLength();
            if (length == 0 || length + power < -FAR_BITS) {
                return 0;
            }
            if (length + power - fractionBits - 1 >= topExponent - bias) {
                return infinity();
            }
            int lowest = (int) Math.max(length + power - fractionBits - 1, 1 - bias);
            int shift = (int) (lowest - power);
            long kept = 0;
            for (int i = fractionBits + 1; i >= 0; i--) {
                kept = kept << 1 | (shift + i >= 0 ? size.bit(shift + i) : 0);
            }
            boolean half = shift > 0 && size.bit(shift - 1) == 1;
            boolean rest = more || size.lowestOne() < shift - 1;
            if (half && (rest || (kept & 1) == 1)) {
                kept++;
            }
            return ((long) (lowest + bias - 1) << fractionBits) + kept;
        }

        long nearestDecimal(Big size, long scale) {
            if (size.size == 0) {
                return 0;
            }
            long top = mill.countFigures(size) - scale;
            if (top > FAR || top < -FAR) {
                return top > 0 ? infinity() : 0;
            }
            Big up = mill.one;
            up.copy(size);
            if (scale <= 0) {
                up.timesFive((int) -scale);
                return nearest(up, -scale, false);
            }
            Big down = mill.two;
            down.setLong(1);
            down.timesFive((int) scale);
            int shift = Math.max(0, down.bitLength() - up.bitLength() + QUOTIENT_BITS);
            up.shiftLeft(shift);
            up.divideBy(down, mill.quotient);
            return nearest(mill.quotient, -shift - scale, up.size > 0);
        }

        /**
         * Figure by figure from the first on, with the half steps to the next floats beside it: the first
         * length at which the figures so far, or one more, round to the float is the least.
         */
        void findShortest(long bits) {
            shortNumber = 0;
            shortPower = 0;
            if (isZero(bits)) {
                return;
            }
            prepare(bits);
            Big left = mill.one;
            Big unit = mill.two;
            boolean even = (bits & 1) == 0;
            for (int n = 1; n <= MOST_SHORT_FIGURES; n++) {
                shortNumber = shortNumber * 10 + nextFigure();
                if (n == 1) {
                    continue;
                }
                boolean lowRounds = left.compareSize(mill.four) < (even ? 1 : 0);
                mill.number.copy(left);
                mill.number.addSize(mill.three);
                boolean highRounds = mill.number.compareSize(unit) > (even ? -1 : 0);
                if (lowRounds || highRounds) {
                    chooseEnd(lowRounds, highRounds, estimate - n);
                    return;
                }
            }
        }

        /** left / unit is the size, brought below 1, three and four the half steps above and below it. */
        private void prepare(long bits) {
            int power = power(bits);
            Big left = mill.one;
            Big unit = mill.two;
            left.setLong(number(bits));
            estimate = (int) Math.floorDiv((left.bitLength() - 1 + power) * 301029995L, 1000000000L);
            left.shiftLeft(2 + Math.max(0, power));
            unit.setLong(1);
            unit.shiftLeft(2 + Math.max(0, -power));
            mill.three.setLong(2);
            mill.three.shiftLeft(Math.max(0, power));
            mill.four.copy(mill.three);
            if (fraction(bits) == 0 && exponent(bits) > 1) {
                mill.four.shiftRight(1);
            }
            unit.timesTen(estimate);
            left.timesTen(-estimate);
            mill.three.timesTen(-estimate);
            mill.four.timesTen(-estimate);
            for (int i = 0; i < 3 && left.compareSize(unit) >= 0; i++) {
                unit.multiplySmall(10, 0);
                estimate++;
            }
        }

        private int nextFigure() {
            mill.one.multiplySmall(10, 0);
            mill.three.multiplySmall(10, 0);
            mill.four.multiplySmall(10, 0);
            int figure = 0;
            while (figure < 9 && mill.one.compareSize(mill.two) >= 0) {
                mill.one.subtractSize(mill.two);
                figure++;
            }
            return figure;
        }

        private void chooseEnd(boolean lowRounds, boolean highRounds, int power) {
            boolean high = highRounds;
            if (lowRounds && highRounds) {
                mill.one.shiftLeft(1);
                int half = mill.one.compareSize(mill.two);
                high = half > 0 || half == 0 && (shortNumber & 1) == 1;
            }
            shortPower = power;
            if (high) {
                shortNumber++;
            }
            for (int i = 0; i < MOST_SHORT_FIGURES && shortNumber % 10 == 0; i++) {
                shortNumber /= 10;
                shortPower++;
            }
        }
    }

    /** Reads the tape; what it says comes in the mill's number and scale, or in bits. */
    private static final class Reader {
        static final int NO_TEXT = 0;
        static final int READ = 1;
        static final int TOO_GREAT = 2;
        private static final long FAR_EXPONENT = 100000000000L;
        private static final int MOST_EXPONENT_FIGURES = 10;
        /** More figures than the point half way between two floats can have. */
        private static final int FLOAT_FIGURES = 800;
        private static final int FLOAT_HEX_FIGURES = 40;

        long scale;
        long bits;
        private final Sheet tape;
        private final Mill mill;
        private int place;
        private int end;
        private boolean negative;
        private int behindPoint;
        private int kept;
        private int dropped;
        private boolean droppedSome;
        private long exponent;

        Reader(Sheet tape, Mill mill) {
            this.tape = tape;
            this.mill = mill;
        }

        int wholeText(int base) {
            begin();
            takeSign();
            Big number = mill.number;
            number.clear();
            boolean fits = true;
            if (place >= end) {
                return NO_TEXT;
            }
            for (; place < end; place++) {
                int digit = digitHere();
                if (digit >= base) {
                    return NO_TEXT;
                }
                if (fits) {
                    number.multiplySmall(base, digit);
                    fits = number.bitLength() <= WHOLE_BITS;
                }
            }
            number.negative = negative && number.size > 0;
            return fits ? READ : TOO_GREAT;
        }

        int decimalText() {
            begin();
            takeSign();
            if (!takeFigures(10, MOST_FIGURES)) {
                return NO_TEXT;
            }
            exponent = 0;
            if ((here() | 32) == 'e' && !takeExponent(MOST_EXPONENT_FIGURES)) {
                return NO_TEXT;
            }
            if (place < end) {
                return NO_TEXT;
            }
            mill.number.negative = negative && mill.number.size > 0;
            scale = behindPoint - exponent;
            return dropped > 0 ? TOO_GREAT : READ;
        }

        int floatText(Floats floats) {
            begin();
            trimBlanks();
            takeSign();
            if (saysRest("NaN")) {
                bits = floats.noNumber();
                return READ;
            }
            long sign = floats.signBit(negative);
            if (saysRest("Infinity")) {
                bits = floats.infinity() | sign;
                return READ;
            }
            boolean hexadecimal = takeHexadecimalMark();
            if (!(hexadecimal ? takeHexadecimal() : takeDecimal()) || !takeEnding()) {
                return NO_TEXT;
            }
            if (hexadecimal) {
                bits = floats.nearest(mill.number, exponent + 4L * (dropped - behindPoint), droppedSome) | sign;
            } else {
                bits = floats.nearestDecimal(mill.number, behindPoint - dropped - exponent) | sign;
            }
            return READ;
        }

        private boolean takeHexadecimalMark() {
            boolean marked = end - place >= 2 && tape.at(place) == '0' && (tape.at(place + 1) | 32) == 'x';
            place += marked ? 2 : 0;
            return marked;
        }

        private boolean takeHexadecimal() {
            return takeFigures(16, FLOAT_HEX_FIGURES) && (here() | 32) == 'p' && takeExponent(TAPE_ROOM);
        }

        /** Of figures that are too many to be kept, all that counts is whether one is not 0. */
        private boolean takeDecimal() {
            if (!takeFigures(10, FLOAT_FIGURES)) {
                return false;
            }
            if (droppedSome) {
                mill.number.multiplySmall(10, 1);
                dropped--;
            }
            exponent = 0;
            return (here() | 32) != 'e' || takeExponent(TAPE_ROOM);
        }

        private boolean takeEnding() {
            int letter = here() | 32;
            if (letter == 'd' || letter == 'f') {
                place++;
            }
            return place >= end;
        }

        private void begin() {
            place = 0;
            end = tape.size;
        }

        private void trimBlanks() {
            while (place < end && tape.at(place) <= 32) {
                place++;
            }
            while (end > place && tape.at(end - 1) <= 32) {
                end--;
            }
        }

        private void takeSign() {
            int c = here();
            negative = c == '-';
            if (c == '-' || c == '+') {
                place++;
            }
        }

        /** Figures with a point somewhere among them; those behind the first ones are only counted. */
        private boolean takeFigures(int base, int most) {
            boolean point = false;
            int all = 0;
            behindPoint = 0;
            kept = 0;
            dropped = 0;
            droppedSome = false;
            mill.number.clear();
            for (; place < end; place++) {
                int digit = digitHere();
                if (digit < base) {
                    keepFigure(base, digit, most);
                    all++;
                    behindPoint += point ? 1 : 0;
                } else if (here() == '.' && !point) {
                    point = true;
                } else {
                    break;
                }
            }
            return all > 0;
        }

        private void keepFigure(int base, int digit, int most) {
            if (kept < most) {
                mill.number.multiplySmall(base, digit);
                kept += mill.number.size > 0 ? 1 : 0;
            } else {
                dropped++;
                droppedSome |= digit != 0;
            }
        }

        private boolean takeExponent(int mostFigures) {
            place++;
            int sign = here() == '-' ? -1 : 1;
            if (here() == '-' || here() == '+') {
                place++;
            }
            int from = place;
            long value = 0;
            for (; place < end && digitHere() < 10; place++) {
                if (value < FAR_EXPONENT) {
                    value = value * 10 + digitHere();
                }
            }
            exponent = sign * value;
            return place > from && place - from <= mostFigures;
        }

        private boolean saysRest(String word) {
            if (end - place != word.length()) {
                return false;
            }
            for (int i = 0; i < word.length(); i++) {
                if (tape.at(place + i) != word.charAt(i)) {
                    return false;
                }
            }
            return true;
        }

        private int here() {
            return place < end ? tape.at(place) : -1;
        }

        private int digitHere() {
            int c = here();
            if (c >= '0' && c <= '9') {
                return c - '0';
            }
            int letter = c | 32;
            return letter >= 'a' && letter <= 'z' ? letter - 'a' + 10 : 99;
        }
    }

    /** The figures of a size, from the first that is not 0 on, and the power of 10 that one stands for. */
    private static final class Digits {
        private static final int ROOM = 1026;
        private static final int CHUNK = 9;
        private static final int BILLION = 1000000000;

        int count;
        int power;
        private final byte[] row = new byte[ROOM];

        /** Uses the number up. */
        void fill(Big number, int scale) {
            count = 0;
            for (int chunk = 0; chunk < ROOM / CHUNK && number.size > 0; chunk++) {
                int part = number.divideSmall(BILLION);
                for (int i = 0; i < CHUNK; i++) {
                    row[count] = (byte) (part % 10);
                    part /= 10;
                    count++;
                }
            }
            turn(scale);
        }

        /** Takes the number's size from below 0, since the least long has none above it. */
        void fillLong(long number, int scale) {
            count = 0;
            long left = number > 0 ? -number : number;
            for (int i = 0; i < 20 && left != 0; i++) {
                row[count] = (byte) -(left % 10);
                left /= 10;
                count++;
            }
            turn(scale);
        }

        private void turn(int scale) {
            while (count > 0 && row[count - 1] == 0) {
                count--;
            }
            int low = 0;
            for (int high = count - 1; low < high; high--) {
                byte figure = row[low];
                row[low] = row[high];
                row[high] = figure;
                low++;
            }
            power = count == 0 ? 0 : count - 1 - scale;
        }

        int figure(int i) {
            return i >= 0 && i < count ? row[i] : 0;
        }

        /** Rounds by a way to so many figures, from the first on; to none or fewer if it stands too low. */
        void round(int keep, int way) {
            if (keep >= count) {
                return;
            }
            boolean outwards = goesOutwards(keep, way);
            count = Math.max(keep, 0);
            if (outwards) {
                stepOutwards(keep);
            }
            if (count == 0) {
                power = 0;
            }
        }

        private boolean goesOutwards(int keep, int way) {
            int next = figure(keep);
            boolean more = keep < 0;
            for (int i = Math.max(keep + 1, 0); i < count && !more; i++) {
                more = row[i] != 0;
            }
            if (way <= 1) {
                return way == 1 && (next != 0 || more);
            }
            if (next != 5 || more) {
                return next >= 5;
            }
            return way == 2 || (figure(keep - 1) & 1) == 1;
        }

        private void stepOutwards(int keep) {
            int last = count - 1;
            while (last >= 0 && row[last] == 9) {
                last--;
            }
            if (last >= 0) {
                row[last]++;
                count = last + 1;
                return;
            }
            power += keep > 0 ? 1 : 1 - keep;
            row[0] = 1;
            count = 1;
        }

        /** Written out, with so many places behind the point. */
        void writePlain(Sheet sheet, int places, boolean commas, boolean alwaysPoint) {
            for (int at = Math.max(power, 0); at >= 0; at--) {
                sheet.add('0' + figure(power - at));
                if (commas && at > 0 && at % 3 == 0) {
                    sheet.add(',');
                }
            }
            if (places > 0 || alwaysPoint) {
                sheet.add('.');
            }
            for (int at = 1; at <= places; at++) {
                sheet.add('0' + figure(power + at));
            }
        }

        /** One figure before the point, so many in all, and the exponent with two figures at least. */
        void writeScience(Sheet sheet, int all, boolean alwaysPoint) {
            writeHead(sheet, all, alwaysPoint);
            sheet.add('e');
            sheet.add(power < 0 ? '-' : '+');
            sheet.addPower(power, 2);
        }

        void writeHead(Sheet sheet, int all, boolean alwaysPoint) {
            sheet.add('0' + figure(0));
            if (all > 1 || alwaysPoint) {
                sheet.add('.');
            }
            for (int i = 1; i < all; i++) {
                sheet.add('0' + figure(i));
            }
        }

        /** So many in all, and so many of them before the point. */
        void writeSplit(Sheet sheet, int before, int all) {
            for (int i = 0; i < Math.max(before, all); i++) {
                if (i == before) {
                    sheet.add('.');
                }
                sheet.add('0' + figure(i));
            }
        }
    }

    /** Writes registers to the paper. */
    private static final class Writer {
        private static final String LETTERS = "0123456789abcdefghijklmnopqrstuvwxyz";
        private static final int MOST_CHUNKS = 2100;

        private final Sheet paper;
        private final Mill mill;
        private final Digits digits;

        Writer(Sheet paper, Mill mill, Digits digits) {
            this.paper = paper;
            this.mill = mill;
            this.digits = digits;
        }

        void wholeText(Big number, int base) {
            begin(number.negative);
            int from = paper.size;
            int chunkFigures = 1;
            int chunk = base;
            while (chunkFigures < 31 && (long) chunk * base <= Big.MASK) {
                chunk *= base;
                chunkFigures++;
            }
            mill.number.copy(number);
            for (int i = 0; i < MOST_CHUNKS && mill.number.size > 0; i++) {
                int part = mill.number.divideSmall(chunk);
                for (int k = 0; k < chunkFigures && (part > 0 || mill.number.size > 0); k++) {
                    paper.add(LETTERS.charAt(part % base));
                    part /= base;
                }
            }
            if (paper.size == from) {
                paper.add('0');
            }
            paper.turn(from);
        }

        void decimalText(Dec number, int style) {
            begin(number.number.negative);
            mill.number.copy(number.number);
            digits.fill(mill.number, number.scale);
            int places = Math.max(0, number.scale);
            int top = number.figureCount - 1 - number.scale;
            if (style == 1 || number.scale == 0 || number.scale > 0 && top >= -6) {
                digits.writePlain(paper, places, false, false);
            } else if (style == 0) {
                digits.writeHead(paper, number.figureCount, false);
                writePower(top);
            } else {
                writeByThrees(number.figureCount, top);
            }
        }

        private void writeByThrees(int figureCount, int top) {
            boolean zero = digits.count == 0;
            int power = zero ? -3 * Math.floorDiv(-top, 3) : 3 * Math.floorDiv(top, 3);
            int before = zero ? 1 : top - power + 1;
            int all = zero ? 1 + power - top : figureCount;
            digits.writeSplit(paper, before, all);
            if (power != 0) {
                writePower(power);
            }
        }

        private void writePower(int power) {
            paper.add('E');
            paper.add(power < 0 ? '-' : '+');
            paper.addPower(power, 1);
        }

        void floatText(Floats floats, long bits, boolean hexadecimal) {
            begin(floats.isNegative(bits) && !floats.isNoNumber(bits));
            if (floats.isNoNumber(bits)) {
                paper.addText("NaN");
            } else if (!floats.isFinite(bits)) {
                paper.addText("Infinity");
            } else if (floats.isZero(bits)) {
                paper.addText(hexadecimal ? "0x0.0p0" : "0.0");
            } else if (hexadecimal) {
                writeHexadecimal(floats, bits);
            } else {
                writeShort(floats, bits);
            }
        }

        private void writeShort(Floats floats, long bits) {
            floats.findShortest(bits);
            digits.fillLong(floats.shortNumber, -floats.shortPower);
            if (digits.power >= -3 && digits.power < 7) {
                digits.writePlain(paper, Math.max(1, -floats.shortPower), false, false);
                return;
            }
            digits.writeHead(paper, Math.max(2, digits.count), false);
            paper.add('E');
            writeSigned(digits.power);
        }

        private void writeHexadecimal(Floats floats, long bits) {
            paper.addText(floats.exponent(bits) > 0 ? "0x1." : "0x0.");
            int figures = (floats.fractionBits + 3) / 4;
            long fraction = floats.fraction(bits) << 4 * figures - floats.fractionBits;
            int zeros = 0;
            while (zeros < figures - 1 && (fraction >>> 4 * zeros & 15) == 0) {
                zeros++;
            }
            for (int i = figures - 1; i >= zeros; i--) {
                paper.add(LETTERS.charAt((int) (fraction >>> 4 * i) & 15));
            }
            paper.add('p');
            writeSigned(floats.power(bits) + floats.fractionBits);
        }

        private void writeSigned(int power) {
            if (power < 0) {
                paper.add('-');
            }
            paper.addPower(power, 1);
        }

        void exactText(Floats floats, long bits, boolean scientific, int n, int way) {
            begin(floats.isNegative(bits));
            digits.fill(mill.number, floats.exactly(bits));
            digits.round(scientific ? n : digits.power + 1 + n, way);
            if (scientific) {
                digits.writeScience(paper, n, false);
            } else {
                digits.writePlain(paper, n, false, false);
            }
        }

        private void begin(boolean negative) {
            paper.clear();
            if (negative) {
                paper.add('-');
            }
        }
    }

    /** One directive of a format, taken apart, and the faults that it has by itself. */
    private static final class Directive {
        static final int MINUS = 1;
        static final int SHARP = 2;
        static final int PLUS = 4;
        static final int ZERO = 8;
        static final int COMMA = 16;
        static final int BRACKET = 32;
        static final int AGAIN = 64;
        static final int BLANK = 128;
        private static final String FLAGS = "-#+0,(< ";
        private static final String CONVERSIONS = "bBsScCdoxXfeEgG%n";
        private static final int MOST_NUMBER = 9999;

        int index;
        int flags;
        int width;
        int precision;
        int conversion;
        int place;
        private final Sheet text;
        private boolean twice;

        Directive(Sheet text) {
            this.text = text;
        }

        /** Place stands behind the directive then. */
        void parse(int from) {
            place = from + 1;
            flags = 0;
            twice = false;
            takeIndex();
            takeFlags();
            width = figureAt(place) > 0 ? takeNumber() : NONE;
            precision = NONE;
            if (text.at(place) == '.' && figureAt(place + 1) >= 0) {
                place++;
                precision = takeNumber();
            }
            conversion = place < text.size ? text.at(place) : NONE;
            place++;
        }

        /** What is no part of a directive is printed as by one without width and flags. */
        void setPlain() {
            flags = 0;
            width = NONE;
            conversion = NONE;
        }

        private void takeIndex() {
            int from = place;
            index = figureAt(place) > 0 ? takeNumber() : NONE;
            if (index != NONE && text.at(place) == '$') {
                place++;
            } else {
                index = NONE;
                place = from;
            }
        }

        private void takeFlags() {
            for (; place < text.size; place++) {
                int which = FLAGS.indexOf((char) text.at(place));
                if (which < 0) {
                    return;
                }
                twice |= has(1 << which);
                flags |= 1 << which;
            }
        }

        private int takeNumber() {
            int value = 0;
            for (; figureAt(place) >= 0 && place < text.size; place++) {
                value = Math.min(value * 10 + figureAt(place), MOST_NUMBER);
            }
            return value;
        }

        private int figureAt(int at) {
            int c = text.at(at);
            return c >= '0' && c <= '9' ? c - '0' : -1;
        }

        boolean has(int flag) {
            return (flags & flag) != 0;
        }

        boolean isOneOf(String conversions) {
            return conversion >= 0 && conversions.indexOf((char) conversion) >= 0;
        }

        boolean isLarge() {
            return conversion >= 'A' && conversion <= 'Z';
        }

        /** 0 for none. */
        int fault() {
            if (conversion < 0) {
                return 1;
            }
            if (!isOneOf(CONVERSIONS)) {
                return 2;
            }
            if (twice) {
                return 3;
            }
            if (conversion == 'n' && (width != NONE || precision != NONE || flags != 0)) {
                return 4;
            }
            if (precision != NONE && isOneOf("cCdoxX%")) {
                return 5;
            }
            if ((flags & ~possibleFlags()) != 0) {
                return 6;
            }
            if (has(MINUS | ZERO) && width == NONE) {
                return 7;
            }
            boolean both = has(MINUS) && has(ZERO) || has(PLUS) && has(BLANK);
            return both ? 8 : 0;
        }

        private int possibleFlags() {
            if (isOneOf("bBsScC%")) {
                return MINUS | AGAIN;
            }
            if (isOneOf("oxX")) {
                return MINUS | SHARP | ZERO | AGAIN;
            }
            int all = 255;
            if (isOneOf("dgG")) {
                return all & ~SHARP;
            }
            return isOneOf("eE") ? all & ~COMMA : all;
        }
    }

    /** The arguments, and the printing of a format with them. */
    private static final class Printer {
        static final int MOST_ARGUMENTS = 9;
        static final int TEXT_ROOM = 64;
        static final int NOTHING = 0;
        static final int TRUTH = 1;
        static final int CHARACTER = 2;
        static final int WHOLE = 3;
        static final int TEXT = 4;
        static final int DECIMAL = 5;
        private static final int MOST_ARGUMENT_SCALE = 40;
        private static final int MOST_PRINTED = 4096;
        private static final int HALF_OUTWARDS = 2;

        int count;
        private final int[] kinds = new int[MOST_ARGUMENTS];
        private final long[] numbers = new long[MOST_ARGUMENTS];
        private final int[] scales = new int[MOST_ARGUMENTS];
        private final Sheet[] texts = new Sheet[MOST_ARGUMENTS];
        private final Sheet tape;
        private final Directive directive;
        private final Digits digits;
        private final Sheet body = new Sheet(MOST_PRINTED + 8);
        private int zerosAt;
        private int ordinary;
        private int last;

        Printer(Sheet tape, Digits digits) {
            this.tape = tape;
            this.digits = digits;
            directive = new Directive(tape);
            for (int i = 0; i < MOST_ARGUMENTS; i++) {
                texts[i] = new Sheet(TEXT_ROOM);
            }
        }

        boolean canTake(Dec number) {
            return number.number.fitsLong() && number.scale >= 0 && number.scale <= MOST_ARGUMENT_SCALE;
        }

        void addNumber(int kind, long number, int scale) {
            if (count < MOST_ARGUMENTS) {
                kinds[count] = kind;
                numbers[count] = number;
                scales[count] = scale;
                count++;
            }
        }

        void addText() {
            if (count < MOST_ARGUMENTS) {
                texts[count].clear();
                copyInto(texts[count], tape, 0, tape.size);
                addNumber(TEXT, 0, 0);
            }
        }

        /** How many bytes the tape as a format printed, or the first fault and its place. */
        int run(Sheet paper) {
            paper.clear();
            ordinary = 0;
            last = NONE;
            int place = 0;
            for (int turn = 0; turn <= FORMAT_ROOM && place < tape.size; turn++) {
                body.clear();
                zerosAt = NONE;
                int next = place + 1;
                int fault = 0;
                if (tape.at(place) == '%') {
                    directive.parse(place);
                    next = directive.place;
                    fault = findFault();
                    if (fault == 0) {
                        writeBody();
                    }
                } else {
                    directive.setPlain();
                    body.add(tape.at(place));
                }
                if (fault == 0 && paper.size + Math.max(body.size, directive.width) > MOST_PRINTED) {
                    fault = 12;
                }
                if (fault != 0) {
                    paper.clear();
                    return -1000 * fault - place;
                }
                widen(paper);
                place = next;
            }
            return paper.size;
        }

        /** Chooses the argument, too: last is the one that the directive has. */
        private int findFault() {
            int fault = directive.fault();
            if (fault != 0 || directive.isOneOf("%n")) {
                return fault;
            }
            int which = chooseArgument();
            if (which < 0 || which >= count) {
                return 9;
            }
            last = which;
            return takesKind(kinds[which]) ? 0 : 10;
        }

        private int chooseArgument() {
            if (directive.has(Directive.AGAIN)) {
                return last;
            }
            if (directive.index != NONE) {
                return directive.index - 1;
            }
            ordinary++;
            return ordinary - 1;
        }

        private boolean takesKind(int kind) {
            if (kind == NOTHING || directive.isOneOf("bBsS")) {
                return true;
            }
            if (directive.isOneOf("cC")) {
                return kind == CHARACTER;
            }
            return kind == (directive.isOneOf("doxX") ? WHOLE : DECIMAL);
        }

        private void writeBody() {
            if (directive.isOneOf("%n")) {
                body.add(directive.conversion == 'n' ? 10 : '%');
                return;
            }
            int kind = kinds[last];
            if (directive.isOneOf("bB")) {
                boolean no = kind == NOTHING || kind == TRUTH && numbers[last] == 0;
                body.addText(no ? "false" : "true");
                cutBody();
            } else if (directive.isOneOf("sS")) {
                writeAnything(last);
                cutBody();
            } else if (kind == NOTHING) {
                body.addText("null");
            } else if (kind == CHARACTER) {
                body.add((int) numbers[last]);
            } else if (directive.isOneOf("oxX")) {
                writeToBase(numbers[last]);
            } else {
                writeSign(numbers[last] < 0);
                digits.fillLong(numbers[last], scales[last]);
                writeNumber();
                if (numbers[last] < 0 && directive.has(Directive.BRACKET)) {
                    body.add(')');
                }
            }
        }

        private void cutBody() {
            if (directive.precision != NONE) {
                body.cut(directive.precision);
            }
        }

        private void writeAnything(int which) {
            switch (kinds[which]) {
                case NOTHING:
                    body.addText("null");
                    break;
                case TRUTH:
                    body.addText(numbers[which] == 0 ? "false" : "true");
                    break;
                case CHARACTER:
                    body.add((int) numbers[which]);
                    break;
                case TEXT:
                    copyInto(body, texts[which], 0, texts[which].size);
                    break;
                default:
                    if (numbers[which] < 0) {
                        body.add('-');
                    }
                    digits.fillLong(numbers[which], scales[which]);
                    digits.writePlain(body, scales[which], false, false);
            }
        }

        private void writeToBase(long number) {
            boolean octal = directive.conversion == 'o';
            if (directive.has(Directive.SHARP)) {
                body.addText(octal ? "0" : "0x");
            }
            zerosAt = body.size;
            int bits = octal ? 3 : 4;
            int figures = 63 / bits + 1;
            while (figures > 1 && number >>> bits * (figures - 1) == 0) {
                figures--;
            }
            for (int i = figures - 1; i >= 0; i--) {
                body.add(Writer.LETTERS.charAt((int) (number >>> bits * i) & (1 << bits) - 1));
            }
        }

        private void writeSign(boolean negative) {
            if (negative) {
                body.add(directive.has(Directive.BRACKET) ? '(' : '-');
            } else if (directive.has(Directive.PLUS)) {
                body.add('+');
            } else if (directive.has(Directive.BLANK)) {
                body.add(' ');
            }
            zerosAt = body.size;
        }

        /** g is f or e, with what its precision comes to, of the number that is rounded already. */
        private void writeNumber() {
            int way = directive.isLarge() ? directive.conversion + 32 : directive.conversion;
            int precision = directive.precision == NONE ? 6 : directive.precision;
            if (way == 'd') {
                way = 'f';
                precision = 0;
            } else if (way == 'g') {
                int all = Math.max(precision, 1);
                digits.round(all, HALF_OUTWARDS);
                boolean plain = digits.power >= -4 && digits.power < all;
                way = plain ? 'f' : 'e';
                precision = plain ? all - 1 - digits.power : all - 1;
            }
            boolean point = directive.has(Directive.SHARP);
            if (way == 'f') {
                digits.round(digits.power + 1 + precision, HALF_OUTWARDS);
                digits.writePlain(body, precision, directive.has(Directive.COMMA), point);
            } else {
                digits.round(precision + 1, HALF_OUTWARDS);
                digits.writeScience(body, precision + 1, point);
            }
        }

        private void widen(Sheet paper) {
            int from = paper.size;
            int missing = directive.width - body.size;
            if (directive.has(Directive.ZERO) && zerosAt != NONE) {
                copyInto(paper, body, 0, zerosAt);
                paper.addTimes('0', missing);
                copyInto(paper, body, zerosAt, body.size);
            } else if (directive.has(Directive.MINUS)) {
                copyInto(paper, body, 0, body.size);
                paper.addTimes(' ', missing);
            } else {
                paper.addTimes(' ', missing);
                copyInto(paper, body, 0, body.size);
            }
            if (directive.isLarge()) {
                enlarge(paper, from);
            }
        }

        private static void copyInto(Sheet to, Sheet from, int start, int end) {
            for (int i = start; i < end; i++) {
                to.add(from.at(i));
            }
        }

        private static void enlarge(Sheet paper, int from) {
            for (int i = from; i < paper.size; i++) {
                int c = paper.at(i);
                if (c >= 'a' && c <= 'z') {
                    paper.replace(i, c - 32);
                }
            }
        }
    }
}
