import java.math.BigInteger;

/**
 * What the tests of the promises share. Expressions are texts here: a to h are
 * the variables 0 to 7, % is REST, G, R and M are GCD, ROOT and MODULAR.
 */
abstract class Checks {
    static final int NOTHING = 0;
    static final int ISE = 1;
    static final int IAE = 2;
    static final int IOOBE = 3;
    static final BigInteger LIMIT = BigInteger.ONE.shiftLeft(768);
    static final BigInteger GREATEST = LIMIT.subtract(BigInteger.ONE);

    static int wrong = 0;
    private static int sentences = 0;

    interface Call {
        long answer();
    }

    interface Deed {
        void happen();
    }

    /** The test of one sentence of the document, which is told by its words if it does not hold. */
    static void sentence(String words, Deed test) {
        int before = wrong;
        sentences++;
        try {
            test.happen();
        } catch (RuntimeException e) {
            wrong++;
            System.out.println("stopped by " + e + " at " + e.getStackTrace()[0]);
        }
        if (wrong != before) {
            System.out.println("DOES NOT HOLD: " + words);
        }
    }

    static void due(String what, long got, long want) {
        if (got != want) {
            wrong++;
            System.out.println(what + " answered " + got + ", due is " + want);
        }
    }

    static void dueText(String what, String got, String want) {
        if (!got.equals(want)) {
            wrong++;
            System.out.println(what + " answered " + got + ", due is " + want);
        }
    }

    static void dueThrow(String what, Call call, int want) {
        due(what + " throws (1 state, 2 argument, 3 index, 0 nothing)", thrown(call), want);
    }

    static void dueThrow(String what, Deed deed, int want) {
        dueThrow(what, () -> {
            deed.happen();
            return 0;
        }, want);
    }

    /** -1 for every other exception, those that are kinds of these among them. */
    private static int thrown(Call call) {
        try {
            call.answer();
            return NOTHING;
        } catch (RuntimeException e) {
            if (e.getClass() == IllegalStateException.class) {
                return ISE;
            }
            if (e.getClass() == IllegalArgumentException.class) {
                return IAE;
            }
            return e.getClass() == IndexOutOfBoundsException.class ? IOOBE : -1;
        }
    }

    static void end() {
        System.out.println(sentences + " sentences, " + wrong + " answers are not as due");
        if (wrong != 0) {
            System.exit(1);
        }
    }

    static void feedText(BigCalculator x, String text) {
        for (int i = 0; i < text.length(); i++) {
            char c = text.charAt(i);
            if (Character.isDigit(c)) {
                int end = i;
                while (end < text.length() && Character.isDigit(text.charAt(end))) {
                    end++;
                }
                x.feed(0, Integer.parseInt(text.substring(i, end)));
                i = end - 1;
            } else if (c >= 'a' && c <= 'h') {
                x.feed(1, c - 'a');
            } else if (c != ' ') {
                x.feed("..+-*/%^(),GRM".indexOf(c), 0);
            }
        }
    }

    static int compileText(BigCalculator x, String text) {
        feedText(x, text);
        return x.compile();
    }

    static BigCalculator compiled(String text) {
        BigCalculator x = new BigCalculator();
        due("compile of " + text, compileText(x, text), 0);
        return x;
    }

    static BigCalculator done(String text) {
        BigCalculator x = compiled(text);
        due("run of " + text, x.run(10000), 0);
        return x;
    }

    static String name(int v) {
        return String.valueOf((char) ('a' + v));
    }

    /** Puts a number of up to 768 bits into a variable, with variable h in between. */
    static void put(BigCalculator x, int v, BigInteger number) {
        x.set(v, 0);
        for (int at = 744; at >= 0; at -= 62) {
            long part = number.abs().shiftRight(at).mod(BigInteger.ONE.shiftLeft(62)).longValueExact();
            x.set(7, number.signum() < 0 ? -part : part);
            compileText(x, name(v) + "*2^62+h");
            x.run(10000);
            x.keep(v);
        }
    }

    static BigInteger resultOf(BigCalculator x) {
        BigInteger number = BigInteger.ZERO;
        for (int i = 23; i >= 0; i--) {
            number = number.shiftLeft(32).add(BigInteger.valueOf(x.limb(i)));
        }
        return x.sign() < 0 ? number.negate() : number;
    }

    static void dueResult(String what, BigCalculator x, BigInteger want) {
        dueText(what, resultOf(x).toString(), want.toString());
    }

    static void value(String text, BigInteger want) {
        dueResult(text, done(text), want);
    }

    static void value(String text, long want) {
        value(text, BigInteger.valueOf(want));
    }

    static BigInteger powerOfTwo(int exponent) {
        return BigInteger.ONE.shiftLeft(exponent);
    }

    static void counts(BigCalculator x, String what, int... want) {
        for (int i = 0; i < want.length; i++) {
            due(what + ": count(" + i + ")", x.count(i), want[i]);
        }
    }
}
