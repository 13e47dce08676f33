import java.math.BigDecimal;
import java.math.BigInteger;

/** What the tests share: a NumberHouse with texts in and out, and the count of wrong answers. */
final class House {
    static final int ILLEGAL_ARGUMENT = 1;
    static final int ARITHMETIC = 2;
    static final int ILLEGAL_STATE = 3;

    private static int checks = 0;
    private static int wrong = 0;
    private static String sentence = "";
    private static int checksOfSentence = 1;

    final NumberHouse x = new NumberHouse();

    /** A call that may throw. */
    interface Call {
        void run();
    }

    /** From here on the checks are of this sentence of the document; a wrong answer is told with it. */
    static void sentence(String text) {
        needChecks();
        sentence = "\"" + text + "\": ";
        checksOfSentence = 0;
    }

    private static void needChecks() {
        if (checksOfSentence == 0) {
            wrong++;
            System.out.println(sentence + "nothing was checked");
        }
    }

    static void due(String what, Object got, Object want) {
        checks++;
        checksOfSentence++;
        if (!String.valueOf(want).equals(String.valueOf(got))) {
            wrong++;
            if (wrong <= 40) {
                System.out.println(sentence + cut(what) + " answered " + cut(got) + ", due is " + cut(want));
            }
        }
    }

    private static String cut(Object what) {
        String text = String.valueOf(what);
        return text.length() <= 200 ? text : text.substring(0, 190) + " (" + text.length() + ")";
    }

    static void end() {
        needChecks();
        System.out.println(checks + " checks, " + wrong + " wrong");
        if (wrong != 0 || checks == 0) {
            System.exit(1);
        }
    }

    static int thrown(Call call) {
        try {
            call.run();
        } catch (IllegalArgumentException e) {
            return ILLEGAL_ARGUMENT;
        } catch (ArithmeticException e) {
            return ARITHMETIC;
        } catch (IllegalStateException e) {
            return ILLEGAL_STATE;
        }
        return 0;
    }

    /** The call must throw this, and change nothing that can be seen without changing it. */
    void refuses(String what, int exception, Call call) {
        String before = state();
        due(what + " throws", thrown(call), exception);
        due(what + " changes nothing", state(), before);
    }

    /** All registers, of long decimals some digits, and the paper, and how much the tape has; what tape() gave it is fed again. */
    String state() {
        StringBuilder all = new StringBuilder();
        for (int i = 0; i < 11008; i += 8) {
            long cell = x.paperAt(i);
            if (cell != 0) {
                all.append(i).append(':').append(cell).append(' ');
            }
        }
        for (int a = 0; a < 10; a++) {
            for (int what = 0; what < 5; what++) {
                all.append(x.told(0, a, what)).append(' ');
            }
            long precision = x.told(1, a, 2);
            all.append(x.told(1, a, 0)).append(' ').append(x.told(1, a, 1)).append(' ');
            for (int i = 0; i < precision; i += i < 10 || i > precision - 10 ? 1 : 61) {
                all.append(x.told(1, a, 3 + i));
            }
            all.append(' ').append(x.told(2, a, 0)).append(' ').append(x.told(3, a, 0)).append(';');
        }
        int size = x.wipe();
        all.append("tape ").append(size);
        if (size == 0) {
            fed = "";
        }
        feed(fed);
        return all.toString();
    }

    private String fed = "";

    /** The tape has this text alone then. */
    void tape(String text) {
        x.wipe();
        fed = "";
        feed(text);
        fed = text;
    }

    private void feed(String text) {
        for (int i = 0; i < text.length(); i += 8) {
            int n = Math.min(8, text.length() - i);
            long bytes = 0;
            for (int k = 0; k < n; k++) {
                bytes |= (long) (text.charAt(i + k) & 255) << (8 * k);
            }
            x.feed(n, bytes);
        }
    }

    String paper(int length) {
        StringBuilder text = new StringBuilder();
        for (int i = 0; i < length; i += 8) {
            long cell = x.paperAt(i);
            for (int k = 0; k < 8 && i + k < length; k++) {
                text.append((char) (cell >>> (8 * k) & 255));
            }
        }
        return x.paperAt(length) == 0 ? text.toString() : text + " and more";
    }

    boolean reads(int kind, int to, int base, String text) {
        tape(text);
        return x.read(kind, to, base);
    }

    String printed(int kind, int a, int style) {
        return paper(x.print(kind, a, style));
    }

    /** What the format prints, or its fault. */
    String formatted(String format) {
        tape(format);
        int answer = x.format();
        return answer >= 0 ? paper(answer) : String.valueOf(answer);
    }

    void setWhole(int to, BigInteger value) {
        due("a whole is read", reads(0, to, 36, value.toString(36)), true);
        forget();
    }

    /** So that no test passes by what the call before it left in the object's scratch numbers. */
    private void forget() {
        due("what is no text", reads(0, 0, 10, "-987654321098765432109876543210x"), false);
        tape("");
    }

    BigInteger getWhole(int a) {
        String text = printed(0, a, 32);
        due("a sign of 0", text.equals("-0"), false);
        return new BigInteger(text, 32);
    }

    void setDecimal(int to, BigDecimal value) {
        due("a decimal is read", reads(1, to, 10, value.unscaledValue() + "E" + -(long) value.scale()), true);
        forget();
    }

    BigDecimal getDecimal(int a) {
        String text = printed(1, a, 0);
        BigDecimal value = new BigDecimal(text);
        due("a sign of 0", value.signum() == 0 && text.startsWith("-"), false);
        return value;
    }

    static BigInteger two(int power) {
        return BigInteger.ONE.shiftLeft(power);
    }

    static BigInteger ten(int power) {
        return BigInteger.TEN.pow(power);
    }
}
