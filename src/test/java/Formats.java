import java.math.BigDecimal;
import java.util.Arrays;

/** What the tests of the printer share: an object with arguments, and what a format prints with them. */
final class Formats {
    private Formats() {
    }

    /** null is nothing; Boolean, Character, Integer or Long, String and BigDecimal are the other kinds. */
    static House with(Object... arguments) {
        House h = new House();
        for (Object argument : arguments) {
            add(h, argument);
        }
        return h;
    }

    static int add(House h, Object argument) {
        if (argument == null) {
            return h.x.argument(4, 0);
        }
        if (argument instanceof Boolean) {
            return h.x.argument(5, (boolean) argument ? 1 : 0);
        }
        if (argument instanceof Character) {
            return h.x.argument(6, (char) argument);
        }
        if (argument instanceof Integer || argument instanceof Long) {
            h.x.put(0, 0, ((Number) argument).longValue());
            return h.x.argument(0, 0);
        }
        if (argument instanceof BigDecimal) {
            h.setDecimal(0, (BigDecimal) argument);
            return h.x.argument(1, 0);
        }
        h.tape((String) argument);
        return h.x.argument(7, 0);
    }

    static BigDecimal dec(String text) {
        return new BigDecimal(text);
    }

    static void prints(String format, String want, Object... arguments) {
        House.due("format " + format + " of " + Arrays.toString(arguments), with(arguments).formatted(format), want);
    }

    /** The answer of a fault; the paper is empty then, and the tape, the arguments and the registers stay. */
    static void fails(String format, int fault, int place, Object... arguments) {
        String what = "format " + format + " of " + Arrays.toString(arguments);
        House h = with(arguments);
        h.formatted("some paper");
        h.tape(format);
        House.due(what, h.x.format(), -1000 * fault - place);
        for (int i = 0; i < 4200; i += i < 64 ? 1 : 100) {
            if (h.x.paperAt(i) != 0) {
                House.due(what + " leaves no paper", h.x.paperAt(i), 0);
            }
        }
        House.due(what + " leaves the arguments", Twins.arguments(with(arguments)), Twins.arguments(h));
        House again = with(arguments);
        again.tape(format);
        again.x.format();
        House.due(what + " leaves the tape", again.x.wipe(), format.length());
        House third = with(arguments);
        third.tape(format);
        third.x.format();
        if (format.length() <= 64) {
            House.due(what + " leaves the text of the tape", Twins.tape(third), format);
        }
    }
}
