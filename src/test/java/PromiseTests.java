import java.math.BigInteger;

/**
 * Each promise of the document by hand: ordinary inputs, the edges that it names
 * and wrong inputs. Expressions are texts here: a to h are the variables 0 to 7,
 * % is REST, G, R and M are GCD, ROOT and MODULAR.
 */
public final class PromiseTests {
    private static final int ISE = 1;
    private static final int IAE = 2;
    private static final int IOOBE = 3;
    private static final BigInteger LIMIT = BigInteger.ONE.shiftLeft(768);

    private static int wrong = 0;

    private interface Call {
        long answer();
    }

    public static void main(String[] args) {
        promise1();
        promise2();
        promise3Places();
        promise3State();
        promise3Registers();
        promise4();
        promise5();
        promise6();
        promise7Answers();
        promise7Order();
        promise7Failures();
        promise7Values();
        promise7TooGreat();
        promise8();
        promise9();
        promise10();
        promise11();
        promise12();
        System.out.println(wrong == 0 ? "all answers are as due" : wrong + " answers are not as due");
        if (wrong != 0) {
            System.exit(1);
        }
    }

    private static void due(String what, long got, long want) {
        if (got != want) {
            wrong++;
            System.out.println(what + " answered " + got + ", due is " + want);
        }
    }

    private static void dueText(String what, String got, String want) {
        if (!got.equals(want)) {
            wrong++;
            System.out.println(what + " answered " + got + ", due is " + want);
        }
    }

    private static int thrown(Call call) {
        try {
            call.answer();
            return 0;
        } catch (IllegalStateException e) {
            return e.getClass() == IllegalStateException.class ? ISE : -1;
        } catch (IllegalArgumentException e) {
            return e.getClass() == IllegalArgumentException.class ? IAE : -1;
        } catch (IndexOutOfBoundsException e) {
            return e.getClass() == IndexOutOfBoundsException.class ? IOOBE : -1;
        }
    }

    private static void dueThrow(String what, Call call, int want) {
        due(what + " throws (1 state, 2 argument, 3 index, 0 nothing)", thrown(call), want);
    }

    private static void feedText(BigCalculator x, String text) {
        for (int i = 0; i < text.length(); i++) {
            char c = text.charAt(i);
            if (Character.isDigit(c)) {
                int end = i;
                while (end < text.length() && Character.isDigit(text.charAt(end))) {
                    end++;
                }
                x.feed(0, Integer.parseInt(text.substring(i, end)));
                i = end - 1;
            } else if (c >= 'a' && c <= 'h') {
                x.feed(1, c - 'a');
            } else if (c != ' ') {
                x.feed("..+-*/%^(),GRM".indexOf(c), 0);
            }
        }
    }

    private static int compileText(BigCalculator x, String text) {
        feedText(x, text);
        return x.compile();
    }

    private static BigCalculator compiled(String text) {
        BigCalculator x = new BigCalculator();
        due("compile of " + text, compileText(x, text), 0);
        return x;
    }

    private static BigCalculator done(String text) {
        BigCalculator x = compiled(text);
        due("run of " + text, x.run(10000), 0);
        return x;
    }

    /** Puts a number of up to 768 bits into a variable, with variable h in between. */
    private static void put(BigCalculator x, int v, BigInteger number) {
        String name = String.valueOf((char) ('a' + v));
        x.set(v, 0);
        for (int at = 744; at >= 0; at -= 62) {
            long part = number.abs().shiftRight(at).mod(BigInteger.ONE.shiftLeft(62)).longValueExact();
            x.set(7, number.signum() < 0 ? -part : part);
            compileText(x, name + "*2^62+h");
            x.run(10000);
            x.keep(v);
        }
    }

    private static BigInteger resultOf(BigCalculator x) {
        BigInteger number = BigInteger.ZERO;
        for (int i = 23; i >= 0; i--) {
            number = number.shiftLeft(32).add(BigInteger.valueOf(x.limb(i)));
        }
        return x.sign() < 0 ? number.negate() : number;
    }

    private static void value(String text, String want) {
        BigCalculator x = done(text);
        dueText(text, resultOf(x).toString(), want);
    }

    private static void counts(BigCalculator x, String what, int... want) {
        for (int i = 0; i < want.length; i++) {
            due(what + ": count(" + i + ")", x.count(i), want[i]);
        }
    }

    private static void promise1() {
        due("NONE", BigCalculator.NONE, -1);
        BigCalculator x = new BigCalculator();
        counts(x, "new", 0, 0, 0, 0, 0, 0, -1, -1);
        dueThrow("new: run", () -> x.run(1), ISE);
        dueThrow("new: restart", () -> { x.restart(); return 0; }, ISE);
        dueThrow("new: sign", () -> x.sign(), ISE);
        for (int v = 0; v < 8; v++) {
            compileText(x, String.valueOf((char) ('a' + v)));
            x.run(1);
            due("new: variable " + v, x.sign(), 0);
        }
    }

    private static void promise2() {
        BigCalculator x = new BigCalculator();
        int fed = 0;
        for (int kind = 0; kind <= 13; kind++) {
            int k = kind;
            due("feed(" + kind + ", 0)", x.feed(kind, 0), ++fed);
            dueThrow("feed(" + kind + ", -1)", () -> x.feed(k, -1), IAE);
            dueThrow("feed(" + kind + ", least)", () -> x.feed(k, Integer.MIN_VALUE), IAE);
            if (kind > 1) {
                dueThrow("feed(" + kind + ", 1)", () -> x.feed(k, 1), IAE);
                dueThrow("feed(" + kind + ", 7)", () -> x.feed(k, 7), IAE);
            }
        }
        due("feed of the greatest number", x.feed(0, Integer.MAX_VALUE), ++fed);
        due("feed of the last variable", x.feed(1, 7), ++fed);
        dueThrow("feed(1, 8)", () -> x.feed(1, 8), IAE);
        for (int kind : new int[] {-1, 14, 15, Integer.MIN_VALUE, Integer.MAX_VALUE}) {
            dueThrow("feed(" + kind + ", 0)", () -> x.feed(kind, 0), IAE);
        }
        due("what throws feeds nothing", x.count(0), fed);
        while (fed < 120) {
            due("feed", x.feed(2, 0), ++fed);
        }
        due("feed of the 121st", x.feed(2, 0), -1);
        due("feed of the 122nd", x.feed(0, 5), -1);
        dueThrow("feed of a wrong kind when full", () -> x.feed(14, 0), IAE);
        dueThrow("feed of a wrong value when full", () -> x.feed(1, 8), IAE);
        due("full", x.count(0), 120);
        x.compile();
        due("feed after compile", x.feed(0, 1), 1);
    }

    private static void place(String text, int want) {
        BigCalculator x = new BigCalculator();
        due("compile of '" + text + "'", compileText(x, text), want);
        due("compile of '" + text + "' leaves code", x.count(1) > 0 ? 1 : 0, want == 0 ? 1 : 0);
        due("compile of '" + text + "' leaves tokens", x.count(0), 0);
    }

    private static void promise3Places() {
        place("", 1);
        place("1", 0);
        place("a", 0);
        place("1 2", 2);
        place("1 a", 2);
        place("1 (", 2);
        place("1 G", 2);
        place("1 +", 3);
        place("1 + +", 3);
        place("+ 1", 1);
        place("* 1", 1);
        place("1 * / 2", 3);
        place("1 ^ * 2", 3);
        place("- 1", 0);
        place("-", 2);
        place("- - 1", 0);
        place("- + 1", 2);
        place("1 - - 1", 0);
        place("1 * - - 1", 0);
        place("2 ^ - 1", 0);
        place("2 ^", 3);
        place(")", 1);
        place(",", 1);
        place("1 )", 2);
        place("1 ,", 2);
        place("( )", 2);
        place("( 1", 3);
        place("( 1 )", 0);
        place("( 1 ) )", 4);
        place("( 1 , 2 )", 3);
        place("( 1 ) 2", 4);
        place("( ( 1 + 2 ) * 3", 9);
        place("G", 2);
        place("G 1", 2);
        place("G )", 2);
        place("G - ( 1 , 2 )", 2);
        place("G G", 2);
        place("G ( )", 3);
        place("G ( 1 )", 4);
        place("G ( 1 , )", 5);
        place("G ( 1 , 2", 6);
        place("G ( 1 , 2 ,", 6);
        place("G ( 1 , 2 )", 0);
        place("G ( ( 1 , 2 ) )", 5);
        place("G ( ( 1 ) , - 2 ^ 3 )", 0);
        place("R ( 1 , 2 )", 4);
        place("R ( 1 )", 0);
        place("R 1", 2);
        place("M ( 1 )", 4);
        place("M ( 1 , 2 )", 6);
        place("M ( 1 , 2 , 3 ,", 8);
        place("M ( 1 , 2 , 3", 8);
        place("M ( 1 , 2 , 3 )", 0);
        place("M ( G ( 1 , 2 ) , R ( 3 ) , M ( 4 , 5 , 6 ) ) + 1", 0);
        place("M ( G ( 1 , 2 , 3 ) , R ( 3 ) , 6 )", 8);
        place("G ( 1 , M ( 2 , 3 ) )", 10);
        place("(".repeat(120), 121);
        place("-".repeat(119) + "1", 0);
        place("-".repeat(120), 121);
        place("(".repeat(59) + "1" + ")".repeat(59), 0);
        place("(".repeat(59) + "1" + ")".repeat(60), 120);
    }

    private static void promise3State() {
        BigCalculator x = done("1+2");
        feedText(x, "7");
        counts(x, "result with a token waiting", 1, 3, 3, 1, 2, 1, 2, 1);
        due("compile", x.compile(), 0);
        counts(x, "compile begins anew", 0, 1, 0, 0, 0, 0, -1, -1);
        due("run", x.run(1), 0);
        due("compile of nothing", x.compile(), 1);
        counts(x, "no code", 0, 0, 0, 0, 0, 0, -1, -1);
        dueThrow("run without code", () -> x.run(1), ISE);
        dueThrow("restart without code", () -> { x.restart(); return 0; }, ISE);
        dueThrow("sign without code", () -> x.sign(), ISE);
        BigCalculator y = compiled("1/0");
        due("run", y.run(9), 2);
        due("compile after a failure", compileText(y, "1/1"), 0);
        due("run after it", y.run(9), 0);
    }

    private static void promise3Registers() {
        String eight = "1+(".repeat(8);
        place(eight + "1+2" + ")".repeat(8), 0);
        place(eight + "1+(1+2)" + ")".repeat(8), -2);
        place(eight + "1+(1+2)" + ")".repeat(9), 40);
        place("2^2^2^2^2^2^2^2^2^2", 0);
        place("2^2^2^2^2^2^2^2^2^2^2", -2);
        place("2^2^2^2^2^2^2^2^2^2^2^", 23);
        place("2^2^2^2^2^2^2^2^M(1,2,3)", -2);
        place("2^2^2^2^2^2^2^M(1,2,3)", 0);
        place("2^2^2^2^2^2^2^2^G(1,2)", 0);
        place("2^2^2^2^2^2^2^2^2^G(1,2)", -2);
        place("2^2^2^2^2^2^2^2^2^R(-1)", 0);
        BigCalculator x = done("1");
        due("compile", compileText(x, "2^2^2^2^2^2^2^2^2^2^2"), -2);
        counts(x, "too many registers", 0, 0, 0, 0, 0, 0, -1, -1);
        dueThrow("run", () -> x.run(1), ISE);
    }

    private static void promise4() {
        for (long value : new long[] {0, 1, -1, 4294967295L, 4294967296L, -4294967296L,
                Long.MAX_VALUE, Long.MIN_VALUE, Long.MIN_VALUE + 1}) {
            for (int v = 0; v < 8; v++) {
                BigCalculator x = new BigCalculator();
                x.set(v, 77);
                x.set(v, value);
                compileText(x, String.valueOf((char) ('a' + v)));
                x.run(1);
                dueText("set(" + v + ", " + value + ")", resultOf(x).toString(), String.valueOf(value));
                for (int other = 0; other < 8; other++) {
                    if (other != v) {
                        due("set(" + v + ") leaves " + other, x.compare(other), Long.signum(value));
                    }
                }
            }
        }
        BigCalculator y = new BigCalculator();
        for (int v : new int[] {-1, 8, Integer.MIN_VALUE, Integer.MAX_VALUE}) {
            dueThrow("set(" + v + ")", () -> { y.set(v, 1); return 0; }, IAE);
        }
        compileText(y, "a+a");
        y.set(0, 5);
        y.run(1);
        y.set(0, 7);
        y.run(2);
        dueText("a variable is read when its instruction is done", resultOf(y).toString(), "12");
        y.set(0, 9);
        dueText("set leaves the result", resultOf(y).toString(), "12");
    }

    private static void promise5() {
        BigCalculator x = compiled("2^767+(2^767-1)");
        dueThrow("keep ahead of a result", () -> { x.keep(0); return 0; }, ISE);
        dueThrow("keep(8) ahead of a result", () -> { x.keep(8); return 0; }, IAE);
        x.run(100);
        dueThrow("keep(8)", () -> { x.keep(8); return 0; }, IAE);
        dueThrow("keep(-1)", () -> { x.keep(-1); return 0; }, IAE);
        x.keep(3);
        due("keep leaves the result", x.count(6), 768);
        due("kept", x.compare(3), 0);
        compileText(x, "-d");
        x.run(100);
        x.keep(4);
        dueText("kept and negated", resultOf(x).toString(), LIMIT.subtract(BigInteger.ONE).negate().toString());
        due("the other one is as it was", x.compare(3), -1);
        compileText(x, "d+e");
        x.run(100);
        due("their sum", x.sign(), 0);
        due("-(2^768-1) is below that", x.compare(4), 1);
        x.keep(3);
        due("0 is kept", x.compare(3), 0);
    }

    private static void promise6() {
        BigCalculator x = compiled("a*2");
        x.set(0, 5);
        x.run(2);
        x.restart();
        counts(x, "restart in between", 0, 3, 0, 0, 0, 0, -1, -1);
        due("run", x.run(3), 0);
        dueText("first", resultOf(x).toString(), "10");
        x.set(0, -6);
        feedText(x, "1");
        x.restart();
        counts(x, "restart at the end", 1, 3, 0, 0, 0, 0, -1, -1);
        dueThrow("restart: sign", () -> x.sign(), ISE);
        due("run", x.run(3), 0);
        dueText("second", resultOf(x).toString(), "-12");
        BigCalculator y = compiled("1/a");
        due("run", y.run(5), 2);
        y.restart();
        y.set(0, 1);
        due("restart after a failure", y.run(5), 0);
    }

    private static void promise7Answers() {
        BigCalculator x = compiled("1+2*3");
        due("run(0)", x.run(0), 1);
        counts(x, "run(0)", 0, 5, 0, 0, 0, 0);
        due("run(1)", x.run(1), 1);
        counts(x, "run(1)", 0, 5, 1, 1, 1, 0);
        due("run(2)", x.run(2), 1);
        counts(x, "run(2)", 0, 5, 3, 3, 3, 0);
        due("run(1)", x.run(1), 1);
        counts(x, "run(1)", 0, 5, 4, 2, 3, 0);
        dueThrow("run(-1)", () -> x.run(-1), IAE);
        dueThrow("run(10001)", () -> x.run(10001), IAE);
        dueThrow("run(least)", () -> x.run(Integer.MIN_VALUE), IAE);
        counts(x, "wrong ones", 0, 5, 4, 2, 3, 0);
        due("run(1)", x.run(1), 0);
        counts(x, "the end", 0, 5, 5, 1, 3, 1, 3, 1);
        due("run(0) at the end", x.run(0), 0);
        due("run(10000) at the end", x.run(10000), 0);
        dueThrow("run(10001) at the end", () -> x.run(10001), IAE);
        dueText("1+2*3", resultOf(x).toString(), "7");
        BigCalculator y = new BigCalculator();
        dueThrow("run(-1) without code", () -> y.run(-1), ISE);
        dueThrow("run(10001) without code", () -> y.run(10001), ISE);
    }

    /** The registers in use after each instruction tell in which order they are done. */
    private static void order(String text, int... used) {
        BigCalculator x = compiled(text);
        due("instructions of " + text, x.count(1), used.length);
        for (int i = 0; i < used.length; i++) {
            due(text + ": run(1)", x.run(1), i + 1 < used.length ? 1 : 0);
            due(text + ": registers after " + (i + 1), x.count(3), used[i]);
            due(text + ": done", x.count(2), i + 1);
        }
    }

    private static void promise7Order() {
        order("(((1)))", 1);
        order("1+2+3", 1, 2, 1, 2, 1);
        order("1+(2+3)", 1, 2, 3, 2, 1);
        order("1*2+3*4", 1, 2, 1, 2, 3, 2, 1);
        order("-1+2", 1, 1, 2, 1);
        order("-2^2*3", 1, 2, 1, 1, 2, 1);
        order("2^-0*3", 1, 2, 2, 1, 2, 1);
        order("M(1,2,3)+G(4,5)-R(6)", 1, 2, 3, 1, 2, 3, 2, 1, 2, 2, 1);
    }

    private static void failure(String text, int want, int doneAhead, int usedAhead) {
        BigCalculator x = compiled(text);
        due(text + ": up to it", x.run(doneAhead), 1);
        due(text + ": one more", x.run(1), want);
        due(text + ": again", x.run(10000), want);
        due(text + ": again with 0", x.run(0), want);
        dueThrow(text + ": run(-1)", () -> x.run(-1), IAE);
        due(text + ": done", x.count(2), doneAhead);
        due(text + ": registers", x.count(3), usedAhead);
        due(text + ": a result", x.count(5), 0);
        due(text + ": bits", x.count(6), -1);
        due(text + ": digits", x.count(7), -1);
        dueThrow(text + ": sign", () -> x.sign(), ISE);
        dueThrow(text + ": keep", () -> { x.keep(0); return 0; }, ISE);
        x.restart();
        due(text + ": anew", x.run(10000), want);
        due(text + ": done anew", x.count(2), doneAhead);
    }

    private static void promise7Failures() {
        failure("1/0+5", 2, 2, 2);
        failure("5+0/0", 2, 3, 3);
        failure("1%0", 2, 2, 2);
        failure("2^(-1)", 3, 3, 2);
        failure("0^(-1)", 3, 3, 2);
        failure("1^(-1)", 3, 3, 2);
        failure("R(-1)", 4, 2, 1);
        failure("1+R(-(2^767))", 4, 5, 2);
        failure("M(1,1,0)", 2, 3, 3);
        failure("M(1,-1,0)", 2, 4, 3);
        failure("M(1,-1,-1)", 3, 5, 3);
        failure("M(1,-1,1)", 3, 4, 3);
        failure("M(1,1,-1)", 5, 4, 3);
        failure("M(0,0,-5)", 5, 4, 3);
        failure("2^768", 6, 2, 2);
        failure("1+2^2147483647*0", 6, 3, 3);
    }

    private static void promise7Values() {
        value("-2^2", "-4");
        value("(-2)^2", "4");
        value("2^3^2", "512");
        value("(2^3)^2", "64");
        value("2-3-4", "-5");
        value("100/7/2", "7");
        value("100%7*3", "6");
        value("100/7%4*2", "4");
        value("2*3^2", "18");
        value("-3*-4", "12");
        value("--5", "5");
        value("0-0", "0");
        value("-0", "0");
        value("7/2", "3");
        value("7%2", "1");
        value("(-7)/2", "-4");
        value("-7%2", "1");
        value("7/-2", "-4");
        value("7%-2", "-1");
        value("-7/-2", "3");
        value("-7%-2", "-1");
        value("-8/2", "-4");
        value("-8%2", "0");
        value("8%-2", "0");
        value("-1/5", "-1");
        value("-1%5", "4");
        value("1/-5", "-1");
        value("1%-5", "-4");
        value("0/-5", "0");
        value("0%-5", "0");
        value("0^0", "1");
        value("0^5", "0");
        value("1^2147483647", "1");
        value("(-1)^2147483647", "-1");
        value("(-1)^2147483646", "1");
        value("(-1)^(2^767)", "1");
        value("0^(2^767)", "0");
        value("(-3)^3", "-27");
        value("G(0,0)", "0");
        value("G(0,-5)", "5");
        value("G(-5,0)", "5");
        value("G(-12,-18)", "6");
        value("G(2^700,6^200)", BigInteger.ONE.shiftLeft(200).toString());
        value("R(0)", "0");
        value("R(1)", "1");
        value("R(3)", "1");
        value("R(4)", "2");
        value("R(8)", "2");
        value("R(9)", "3");
        value("R(2^767)", BigInteger.ONE.shiftLeft(767).sqrt().toString());
        value("R(2^383*2^383)", BigInteger.ONE.shiftLeft(383).toString());
        value("R(2^383*2^383-1)", BigInteger.ONE.shiftLeft(383).subtract(BigInteger.ONE).toString());
        value("M(0,0,1)", "0");
        value("M(0,0,2)", "1");
        value("M(5,0,7)", "1");
        value("M(-2,3,5)", "2");
        value("M(-2,1,2)", "0");
        value("M(7,2147483647,1)", "0");
        value("M(3,2^700,2^500+1)", BigInteger.valueOf(3).modPow(
                BigInteger.ONE.shiftLeft(700), BigInteger.ONE.shiftLeft(500).add(BigInteger.ONE)).toString());
        BigInteger greatest = LIMIT.subtract(BigInteger.ONE);
        BigCalculator x = new BigCalculator();
        put(x, 0, greatest);
        compileText(x, "M(a-1,a-2,a)");
        due("run of the dearest MODULAR", x.run(10000), 0);
        dueText("the dearest MODULAR", resultOf(x).toString(), greatest.subtract(BigInteger.ONE)
                .modPow(greatest.subtract(BigInteger.TWO), greatest).toString());
    }

    private static void limit(String text, int want) {
        BigCalculator x = new BigCalculator();
        put(x, 0, LIMIT.subtract(BigInteger.ONE));
        put(x, 1, LIMIT.subtract(BigInteger.ONE).negate());
        due("compile of " + text, compileText(x, text), 0);
        due(text + " of the greatest value a and its opposite b", x.run(10000), want);
    }

    private static void promise7TooGreat() {
        limit("a+0", 0);
        limit("a+1", 6);
        limit("b-0", 0);
        limit("b-1", 6);
        limit("a-b", 6);
        limit("b-a", 6);
        limit("a+b", 0);
        limit("-a", 0);
        limit("a*1", 0);
        limit("a*-1", 0);
        limit("a*2", 6);
        limit("a*a", 6);
        limit("a*b", 6);
        limit("a*0", 0);
        limit("a^1", 0);
        limit("a^2", 6);
        limit("a^0", 0);
        limit("2^a", 6);
        limit("1^a", 0);
        limit("b/2", 0);
        limit("b/1", 0);
        limit("1%b", 0);
        limit("R(a)", 0);
        limit("G(a,b)", 0);
        limit("M(a,a,a)", 0);
        failure("2^767+2^767", 6, 6, 2);
        failure("2^767*2", 6, 4, 2);
        failure("-(2^767)-2^767", 6, 7, 2);
        failure("(-2)^768", 6, 3, 2);
        failure("(-2)^769", 6, 3, 2);
        value("(-2)^767", BigInteger.ONE.shiftLeft(767).negate().toString());
        value("2^384*(2^384-1)", LIMIT.subtract(BigInteger.ONE.shiftLeft(384)).toString());
        value("3^484", BigInteger.valueOf(3).pow(484).toString());
        failure("3^485", 6, 2, 2);
    }

    private static void promise8() {
        due("sign of 5", done("5").sign(), 1);
        due("sign of 0", done("5-5").sign(), 0);
        due("sign of -5", done("-5").sign(), -1);
        due("sign of -0", done("-(5-5)").sign(), 0);
        due("sign of 0*-5", done("0*-5").sign(), 0);
        due("sign of -(2^767)", done("-(2^767)").sign(), -1);
        dueThrow("sign ahead of the end", () -> compiled("1").sign(), ISE);
    }

    private static void promise9() {
        BigCalculator x = new BigCalculator();
        dueThrow("limb(0) without a result", () -> x.limb(0), ISE);
        dueThrow("limb(24) without a result", () -> x.limb(24), ISE);
        BigInteger number = BigInteger.ZERO;
        for (int i = 23; i >= 0; i--) {
            number = number.shiftLeft(32).add(BigInteger.valueOf(0xFFFFFFFFL - i));
        }
        put(x, 0, number.negate());
        compileText(x, "a");
        x.run(1);
        for (int i = 0; i < 24; i++) {
            due("limb(" + i + ")", x.limb(i), 0xFFFFFFFFL - i);
        }
        for (int i : new int[] {-1, 24, Integer.MIN_VALUE, Integer.MAX_VALUE}) {
            dueThrow("limb(" + i + ")", () -> x.limb(i), IOOBE);
        }
        compileText(x, "7");
        x.run(1);
        due("limb(0)", x.limb(0), 7);
        for (int i = 1; i < 24; i++) {
            due("limb(" + i + ") above", x.limb(i), 0);
        }
    }

    private static void digits(BigInteger number) {
        BigCalculator x = new BigCalculator();
        put(x, 0, number);
        compileText(x, "a");
        x.run(1);
        String text = number.abs().toString();
        due("digits of " + number, x.count(7), text.length());
        for (int i = 0; i < 240; i++) {
            int want = i < text.length() ? text.charAt(text.length() - 1 - i) - '0' : 0;
            due("digit(" + i + ") of " + number, x.digit(i), want);
        }
        due("a digit far above", x.digit(Integer.MAX_VALUE), 0);
        dueThrow("digit(-1)", () -> x.digit(-1), IOOBE);
        dueThrow("digit(least)", () -> x.digit(Integer.MIN_VALUE), IOOBE);
        dueText("digit leaves the result", resultOf(x).toString(), number.toString());
    }

    private static void promise10() {
        BigCalculator x = compiled("1");
        dueThrow("digit(0) without a result", () -> x.digit(0), ISE);
        dueThrow("digit(-1) without a result", () -> x.digit(-1), ISE);
        digits(BigInteger.ZERO);
        digits(LIMIT.subtract(BigInteger.ONE));
        digits(LIMIT.subtract(BigInteger.ONE).negate());
        for (int i : new int[] {0, 1, 8, 9, 10, 17, 18, 19, 27, 100, 230, 231}) {
            digits(BigInteger.TEN.pow(i));
            digits(BigInteger.TEN.pow(i).subtract(BigInteger.ONE).negate());
        }
        digits(new BigInteger("1234567890".repeat(23)));
    }

    private static void promise11() {
        BigCalculator x = new BigCalculator();
        dueThrow("compare(0) without a result", () -> x.compare(0), ISE);
        for (int v : new int[] {-1, 8, Integer.MIN_VALUE, Integer.MAX_VALUE}) {
            dueThrow("compare(" + v + ") without a result", () -> x.compare(v), IAE);
        }
        long[] values = {Long.MIN_VALUE, -4294967296L, -4294967295L, -1, 0, 1, 4294967295L, Long.MAX_VALUE};
        for (int v = 0; v < 8; v++) {
            x.set(v, values[v]);
        }
        for (int v = 0; v < 8; v++) {
            compileText(x, String.valueOf((char) ('a' + v)));
            x.run(1);
            for (int other = 0; other < 8; other++) {
                due(values[v] + " less " + values[other], x.compare(other), Long.compare(values[v], values[other]));
            }
        }
        dueThrow("compare(8)", () -> x.compare(8), IAE);
        dueThrow("compare(-1)", () -> x.compare(-1), IAE);
        compileText(x, "2^700");
        x.run(3);
        x.keep(0);
        for (String text : new String[] {"2^700-1", "2^700", "2^700+1", "-(2^700)", "2^668", "2^701"}) {
            compileText(x, text);
            x.run(10);
            BigInteger got = resultOf(x);
            due(text + " less 2^700", x.compare(0), got.compareTo(BigInteger.ONE.shiftLeft(700)));
        }
    }

    private static void promise12() {
        BigCalculator x = done("2^(3-1)");
        feedText(x, "1+");
        counts(x, "2^(3-1)", 2, 5, 5, 1, 3, 1, 3, 1);
        for (int what : new int[] {-1, 8, 9, Integer.MIN_VALUE, Integer.MAX_VALUE}) {
            due("count(" + what + ")", x.count(what), -1);
        }
        counts(done("0"), "0", 0, 1, 1, 1, 1, 1, 0, 1);
        counts(done("-9"), "-9", 0, 2, 2, 1, 1, 1, 4, 1);
        counts(done("-10"), "-10", 0, 2, 2, 1, 1, 1, 4, 2);
        counts(done("2^32-1"), "2^32-1", 0, 5, 5, 1, 2, 1, 32, 10);
        counts(done("2^32"), "2^32", 0, 3, 3, 1, 2, 1, 33, 10);
        counts(done("2^767+(2^767-1)"), "2^768-1", 0, 9, 9, 1, 3, 1, 768, 232);
        counts(done("M(1,2,3)+1"), "M(1,2,3)+1", 0, 6, 6, 1, 3, 1, 2, 1);
        BigCalculator y = compiled("(1+(2+3))/0");
        due("run", y.run(100), 2);
        counts(y, "a failure keeps the most", 0, 7, 6, 2, 3, 0, -1, -1);
        dueThrow("a wrong run", () -> y.run(-1), IAE);
        counts(y, "and so does a throw", 0, 7, 6, 2, 3, 0, -1, -1);
        y.restart();
        counts(y, "anew", 0, 7, 0, 0, 0, 0, -1, -1);
    }
}
