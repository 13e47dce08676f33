/**
 * Objects made alike, of which one gets a call more: if that call changes nothing, all that can be seen of
 * the two is the same. Looking uses an object up, so that registers, paper, tape and arguments are each
 * looked at in a pair of their own.
 */
final class Twins {
    static final int[] NO_REGISTER = {-1, 10, 11, 256, 1 << 16, Integer.MIN_VALUE, Integer.MAX_VALUE};

    private static final long[] PRIMES = {3, 5, 7, 11, 13, 17, 19, 23, 29, 31};

    /** What is done to a new object. */
    interface Setup {
        void make(House h);
    }

    interface Act {
        void call(NumberHouse x);
    }

    interface Answer {
        long call(NumberHouse x);
    }

    /** A call whose numbers are in a row, so that one of them can be another. */
    interface Numbers {
        void call(NumberHouse x, int... n);
    }

    private interface Look {
        String at(House h);
    }

    /** Something of every kind of state, so that a change of any can be seen. */
    static void furnish(House h) {
        for (int a = 0; a < 10; a++) {
            h.x.put(0, a, PRIMES[a]);
            h.x.put(1, a, 10 * PRIMES[a]);
            h.x.put(2, a, Double.doubleToRawLongBits(PRIMES[a] + 0.25));
            h.x.put(3, a, Float.floatToRawIntBits(PRIMES[a] + 0.5f));
        }
        furnishRest(h);
    }

    private static void furnishRest(House h) {
        h.x.argument(8, 0);
        h.tape("text");
        h.x.argument(7, 0);
        h.x.argument(6, 'q');
        h.x.argument(5, 1);
        h.x.print(2, 9, 0);
        h.tape("4711");
    }

    static final Setup FURNISHED = Twins::furnish;

    /** With the registers that the setup makes, and tape, paper and arguments behind it. */
    static Setup furnished(Setup registers) {
        return h -> {
            furnish(h);
            registers.make(h);
            furnishRest(h);
        };
    }

    static Setup withTape(String text) {
        return h -> {
            furnish(h);
            h.tape(text);
        };
    }

    static void refuses(String what, int exception, Setup setup, Act act) {
        same(what, setup, x -> House.due(what + " throws", House.thrown(() -> act.call(x)), exception));
    }

    static void takes(String what, Setup setup, Act act) {
        House h = made(setup);
        House.due(what + " throws", House.thrown(() -> act.call(h.x)), 0);
    }

    /** The call answers this, and changes nothing. */
    static void answers(String what, long want, Setup setup, Answer act) {
        same(what, setup, x -> House.due(what, act.call(x), want));
    }

    static void same(String what, Setup setup, Act act) {
        look(what + " changes no register", setup, act, Twins::registers);
        look(what + " leaves the paper", setup, act, Twins::paper);
        look(what + " leaves the tape", setup, act, Twins::tape);
        look(what + " leaves the arguments", setup, act, Twins::arguments);
    }

    /** The number at this place may be least .. most: the ends are taken, and what is beyond them is refused. */
    static void range(String what, int place, int least, int most, Numbers call, int... good) {
        for (int end : new int[] {least, most}) {
            takes(what + " with " + end, FURNISHED, x -> call.call(x, with(good, place, end)));
        }
        for (int bad : new int[] {least - 1, most + 1, Integer.MIN_VALUE, Integer.MAX_VALUE}) {
            refuses(what + " with " + bad, House.ILLEGAL_ARGUMENT, FURNISHED, x -> call.call(x, with(good, place, bad)));
        }
    }

    /** The numbers at these places are registers: 0 and 9 are taken, others are refused. */
    static void registers(String what, Numbers call, int[] places, int... good) {
        for (int place : places) {
            for (int end : new int[] {0, 9}) {
                takes(what + " with " + end + " at " + place, FURNISHED, x -> call.call(x, with(good, place, end)));
            }
            for (int bad : NO_REGISTER) {
                refuses(what + " with " + bad + " at " + place, House.ILLEGAL_ARGUMENT, FURNISHED,
                        x -> call.call(x, with(good, place, bad)));
            }
        }
    }

    private static int[] with(int[] good, int place, int value) {
        int[] numbers = good.clone();
        numbers[place] = value;
        return numbers;
    }

    private static void look(String what, Setup setup, Act act, Look look) {
        House changed = made(setup);
        act.call(changed.x);
        House.due(what, look.at(changed), look.at(made(setup)));
    }

    private static House made(Setup setup) {
        House h = new House();
        setup.make(h);
        return h;
    }

    private static String registers(House h) {
        StringBuilder all = new StringBuilder();
        for (int a = 0; a < 10; a++) {
            all.append(a).append(": ");
            all.append(h.x.told(0, a, 1) == 0 ? "0" : h.printed(0, a, 36)).append(' ');
            all.append(h.x.told(1, a, 0) == 0 ? "0" : h.printed(1, a, 0)).append(" scale ").append(h.x.told(1, a, 1));
            all.append(" of ").append(h.x.told(1, a, 2)).append(' ');
            all.append(h.x.told(2, a, 0)).append(' ').append(h.x.told(3, a, 0)).append('\n');
        }
        return all.toString();
    }

    private static String paper(House h) {
        StringBuilder all = new StringBuilder();
        for (int i = 0; i < 11008; i += i < 320 ? 8 : 512) {
            all.append(h.x.paperAt(i)).append(' ');
        }
        return all.toString();
    }

    /** As a text, if it is short enough; else as a format or as a whole, if it is one. */
    static String tape(House h) {
        h.x.argument(8, 0);
        int thrown = House.thrown(() -> h.x.argument(7, 0));
        if (thrown == 0) {
            return h.formatted("%s");
        }
        int[] length = {0};
        if (House.thrown(() -> length[0] = h.x.format()) == 0) {
            return length[0] + " " + (length[0] < 0 ? h.x.wipe() : h.paper(length[0]));
        }
        h.x.put(0, 0, 0);
        boolean[] read = {false};
        int refused = House.thrown(() -> read[0] = h.x.read(0, 0, 36));
        return read[0] + " " + refused + " " + h.printed(0, 0, 36) + " " + h.x.wipe();
    }

    /** Their number, and what each conversion that takes one kind alone makes of them. */
    static String arguments(House h) {
        StringBuilder all = new StringBuilder();
        for (int i = 1; i <= 9; i++) {
            for (String conversion : new String[] {"s", "d", "f", "c", "b"}) {
                all.append(h.formatted("%" + i + "$" + conversion)).append(' ');
            }
        }
        int count = h.x.argument(4, 0);
        return all.append(count).toString();
    }
}
