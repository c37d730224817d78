import java.math.BigInteger;

/** A test for each sentence of the document's promises 1 to 12, with the boundary that it names. */
public final class PromiseTests extends Checks {
    private static final int[] NO_VARIABLES = {-1, 8, 9, Integer.MIN_VALUE, Integer.MAX_VALUE};

    public static void main(String[] args) {
        newAndFeed();
        compile();
        setAndKeep();
        restartAndRun();
        runRefused();
        reading();
        count();
        end();
    }

    private static void newAndFeed() {
        sentence("NONE = -1", () -> due("NONE", BigCalculator.NONE, -1));
        sentence("1: No tokens", PromiseTests::newWithoutTokens);
        sentence("1: no code", PromiseTests::newWithoutCode);
        sentence("2: A token behind the others", PromiseTests::feedBehindTheOthers);
        sentence("2: how many there are", PromiseTests::feedTellsHowMany);
        sentence("2: NONE when there are 120", PromiseTests::feedWhenThereAre120);
        sentence("2: IllegalArgumentException when kind or value is not as said", PromiseTests::feedRefused);
        sentence("2: IllegalArgumentException, ahead of that", PromiseTests::feedRefusedAheadOfNone);
    }

    private static void compile() {
        sentence("3: The tokens go", PromiseTests::tokensGo);
        sentence("3: they are made into code", PromiseTests::madeIntoCode);
        sentence("3: that begins anew", PromiseTests::compileBeginsAnew);
        sentence("3: 0", PromiseTests::compileAnswers0);
        sentence("3: 1 + the number (from 0) of the first token that can't stand where it does",
                PromiseTests::firstWrongToken);
        sentence("3: how many there are, if more must follow", PromiseTests::moreMustFollow);
        sentence("3: -2 when more than 10 registers would be wanted", PromiseTests::elevenRegisters);
        sentence("3: -2, without such a token", PromiseTests::wrongTokenAheadOfRegisters);
        sentence("3: Without 0 there is no code", PromiseTests::without0NoCode);
    }

    private static void setAndKeep() {
        sentence("4: Variable v becomes a number", PromiseTests::setNumbers);
        sentence("4: Variable v becomes a number (in any state)", PromiseTests::setInAnyState);
        sentence("4: IllegalArgumentException when it is not 0 .. 7", PromiseTests::setRefused);
        sentence("5: Variable v becomes the result", PromiseTests::keepResults);
        sentence("5: Variable v becomes the result (and stays it)", PromiseTests::keptStays);
        sentence("5: IllegalArgumentException when it is not 0 .. 7", PromiseTests::keepRefused);
        sentence("5: else IllegalStateException when there is no result", PromiseTests::keepWithoutResult);
    }

    private static void restartAndRun() {
        sentence("6: The code begins anew", PromiseTests::restartBeginsAnew);
        sentence("6: IllegalStateException without code", PromiseTests::restartWithoutCode);
        sentence("7: Up to n instructions more", PromiseTests::upToN);
        sentence("7: 0 all is done", PromiseTests::allIsDone);
        sentence("7: 1 not yet", PromiseTests::notYet);
        sentence("7: 2 to 6 that one could not be done", PromiseTests::oneCouldNotBeDone);
        sentence("7: and none more can, till it begins anew: the same answer again", PromiseTests::sameAnswerAgain);
        sentence("7: registers are in use as ahead of it", PromiseTests::registersAsAhead);
    }

    private static void runRefused() {
        sentence("7: 2 a divisor (of DIVIDE, REST), or MODULAR's m, is 0", PromiseTests::divisorIs0);
        sentence("7: 3 an exponent below 0", PromiseTests::exponentBelow0);
        sentence("7: 4 ROOT of one below 0", PromiseTests::rootOfOneBelow0);
        sentence("7: 5 MODULAR's m below 0", PromiseTests::modulusBelow0);
        sentence("7: 6 a value is too great", PromiseTests::valueTooGreat);
        sentence("7: Of several the one that stands first here", PromiseTests::firstOfSeveral);
        sentence("7: IllegalStateException without code", PromiseTests::runWithoutCode);
        sentence("7: else IllegalArgumentException when n is not 0 .. 10000", PromiseTests::runRefusedN);
    }

    private static void reading() {
        sentence("8: -1, 0 or 1 as the result is below 0, 0, above", PromiseTests::signs);
        sentence("8: IllegalStateException when there is none",
                () -> withoutResult((x, state) -> dueThrow(state + ": sign()", x::sign, ISE)));
        sentence("9: Bits 32 * i .. 32 * i + 31 of its magnitude", PromiseTests::limbs);
        sentence("9: as a number 0 .. 2^32 - 1", PromiseTests::limbsWithoutSign);
        sentence("9: IllegalStateException when there is none", PromiseTests::limbWithoutResult);
        sentence("9: else IndexOutOfBoundsException when i is not 0 .. 23", PromiseTests::limbRefused);
        sentence("10: The i-th digit of its magnitude, from the lowest one (0) on", PromiseTests::digits);
        sentence("10: 0 for all above the highest", PromiseTests::digitsAbove);
        sentence("10: IllegalStateException when there is none", PromiseTests::digitWithoutResult);
        sentence("10: else IndexOutOfBoundsException when i is below 0", PromiseTests::digitRefused);
        sentence("11: The result less variable v: -1, 0, 1", PromiseTests::compared);
        sentence("11: IllegalArgumentException when v is not 0 .. 7", PromiseTests::compareRefused);
        sentence("11: else IllegalStateException when there is no result", PromiseTests::compareWithoutResult);
    }

    private static void count() {
        sentence("12: 0 tokens that wait", PromiseTests::countTokens);
        sentence("12: 1 instructions of the code (0 without)", PromiseTests::countInstructions);
        sentence("12: 2 those that were done", PromiseTests::countDone);
        sentence("12: 3 registers in use now", PromiseTests::countInUse);
        sentence("12: 4 the most that were at once since it began", PromiseTests::countMost);
        sentence("12: 5 whether there is a result (1 or 0)", PromiseTests::countResult);
        sentence("12: 6 the bits of its magnitude (0 for 0)", PromiseTests::countBits);
        sentence("12: 7 its decimal digits (1 for 0)", PromiseTests::countDigits);
        sentence("12: the last two NONE without a result", PromiseTests::countWithoutResult);
        sentence("12: NONE for others", PromiseTests::countOthers);
    }

    private interface StateCheck {
        void look(BigCalculator x, String state);
    }

    private static void withoutCode(StateCheck check) {
        check.look(new BigCalculator(), "new");
        BigCalculator fed = new BigCalculator();
        feedText(fed, "1+2");
        check.look(fed, "tokens, not compiled");
        BigCalculator spoilt = done("1+2");
        due("compile", compileText(spoilt, "1+"), 3);
        check.look(spoilt, "a wrong token");
        BigCalculator empty = done("1+2");
        due("compile", empty.compile(), 1);
        check.look(empty, "compiled from nothing");
        BigCalculator wide = done("1+2");
        due("compile", compileText(wide, "1^1^1^1^1^1^1^1^1^1^1"), -2);
        check.look(wide, "too many registers");
    }

    private static void withoutResult(StateCheck check) {
        withoutCode(check);
        BigCalculator x = compiled("1/a");
        check.look(x, "compiled");
        x.run(0);
        check.look(x, "run by 0");
        x.run(2);
        check.look(x, "all but one done");
        due("run", x.run(1), 2);
        check.look(x, "failed");
        x.set(0, 1);
        check.look(x, "failed, and the variable set");
        x.restart();
        due("run", x.run(3), 0);
        x.restart();
        check.look(x, "restarted");
        due("run", x.run(3), 0);
        compileText(x, "5");
        check.look(x, "compiled again");
    }

    private static void newWithoutTokens() {
        BigCalculator x = new BigCalculator();
        due("tokens", x.count(0), 0);
        due("compile of none", x.compile(), 1);
        due("the first feed", new BigCalculator().feed(0, 5), 1);
    }

    private static void newWithoutCode() {
        BigCalculator x = new BigCalculator();
        counts(x, "new", 0, 0, 0, 0, 0, 0, -1, -1);
        dueThrow("new: run(1)", () -> x.run(1), ISE);
        dueThrow("new: restart()", x::restart, ISE);
        dueThrow("new: sign()", x::sign, ISE);
    }

    private static void feedBehindTheOthers() {
        value("7-2", 5);
        value("2-7", -5);
        BigCalculator x = done("1");
        feedText(x, "8");
        feedText(x, "/");
        due("count in between", x.count(0), 2);
        due("run in between", x.run(5), 0);
        feedText(x, "2");
        due("compile", x.compile(), 0);
        x.run(3);
        dueResult("8 / 2, fed piece by piece", x, BigInteger.valueOf(4));
    }

    private static void feedTellsHowMany() {
        BigCalculator x = new BigCalculator();
        for (int i = 1; i <= 120; i++) {
            due("feed", x.feed(i % 14, 0), i);
        }
        x.compile();
        due("feed behind compile", x.feed(0, 1), 1);
        due("feed behind that", x.feed(0, 1), 2);
    }

    private static void feedWhenThereAre120() {
        BigCalculator x = new BigCalculator();
        feedText(x, "1" + "+1".repeat(59));
        due("feed of the 120th", x.feed(2, 0), 120);
        due("feed of the 121st", x.feed(0, 5), -1);
        due("feed of the 122nd", x.feed(13, 0), -1);
        due("tokens", x.count(0), 120);
        due("compile, as the 121st is not there", x.compile(), 121);
        due("feed behind compile", x.feed(0, 5), 1);
        BigCalculator y = new BigCalculator();
        feedText(y, "-".repeat(119) + "5");
        due("feed when full", y.feed(2, 0), -1);
        due("compile, as what came later is not there", y.compile(), 0);
    }

    private static void feedRefused() {
        BigCalculator x = new BigCalculator();
        feedText(x, "1");
        for (int kind = 0; kind <= 13; kind++) {
            int k = kind;
            dueThrow("feed(" + kind + ", -1)", () -> x.feed(k, -1), IAE);
            dueThrow("feed(" + kind + ", least)", () -> x.feed(k, Integer.MIN_VALUE), IAE);
            dueThrow("feed(" + kind + ", greatest)", () -> x.feed(k, Integer.MAX_VALUE), kind == 0 ? NOTHING : IAE);
            dueThrow("feed(" + kind + ", 8)", () -> x.feed(k, 8), kind == 0 ? NOTHING : IAE);
            dueThrow("feed(" + kind + ", 7)", () -> x.feed(k, 7), kind < 2 ? NOTHING : IAE);
            dueThrow("feed(" + kind + ", 1)", () -> x.feed(k, 1), kind < 2 ? NOTHING : IAE);
        }
        for (int kind : new int[] {-1, 14, 15, Integer.MIN_VALUE, Integer.MAX_VALUE}) {
            dueThrow("feed(" + kind + ", 0)", () -> x.feed(kind, 0), IAE);
            dueThrow("feed(" + kind + ", 1)", () -> x.feed(kind, 1), IAE);
        }
        due("only the right ones were fed", x.count(0), 1 + 4 + 2);
    }

    private static void feedRefusedAheadOfNone() {
        BigCalculator x = new BigCalculator();
        feedText(x, "-".repeat(120));
        dueThrow("feed(-1, 0) when full", () -> x.feed(-1, 0), IAE);
        dueThrow("feed(14, 0) when full", () -> x.feed(14, 0), IAE);
        dueThrow("feed(0, -1) when full", () -> x.feed(0, -1), IAE);
        dueThrow("feed(1, 8) when full", () -> x.feed(1, 8), IAE);
        dueThrow("feed(2, 1) when full", () -> x.feed(2, 1), IAE);
        due("feed(2, 0) when full", x.feed(2, 0), -1);
        due("tokens", x.count(0), 120);
    }

    private static void gone(String text, int want) {
        BigCalculator x = new BigCalculator();
        due("compile of " + text, compileText(x, text), want);
        due("tokens behind " + text, x.count(0), 0);
        due("compile again", x.compile(), 1);
        due("the first feed behind " + text, x.feed(0, 9), 1);
        due("compile of that one", x.compile(), 0);
        x.run(1);
        dueResult("that one", x, BigInteger.valueOf(9));
    }

    private static void tokensGo() {
        gone("", 1);
        gone("1+2", 0);
        gone("1 2", 2);
        gone("1+", 3);
        gone("1^1^1^1^1^1^1^1^1^1^1", -2);
        gone("-".repeat(119) + "5", 0);
        gone("-".repeat(120), 121);
    }

    private static void madeIntoCode() {
        BigCalculator x = compiled("1+2");
        due("instructions", x.count(1), 3);
        due("compile of other tokens", compileText(x, "-4"), 0);
        due("instructions of the other ones", x.count(1), 2);
        due("run", x.run(2), 0);
        dueResult("-4", x, BigInteger.valueOf(-4));
    }

    private static void compileBeginsAnew() {
        BigCalculator x = done("1+2*3");
        feedText(x, "7-1");
        counts(x, "ahead of compile", 3, 5, 5, 1, 3, 1, 3, 1);
        due("compile", x.compile(), 0);
        counts(x, "behind compile", 0, 3, 0, 0, 0, 0, -1, -1);
        x.run(1);
        due("compile on the way", compileText(x, "8"), 0);
        counts(x, "behind compile on the way", 0, 1, 0, 0, 0, 0, -1, -1);
        due("compile", compileText(x, "1/0"), 0);
        due("run", x.run(9), 2);
        due("compile behind a failure", compileText(x, "1/1"), 0);
        counts(x, "behind compile behind a failure", 0, 3, 0, 0, 0, 0, -1, -1);
        due("run", x.run(9), 0);
        x.set(0, 6);
        due("compile leaves variables", compileText(x, "a"), 0);
        x.run(1);
        dueResult("a", x, BigInteger.valueOf(6));
    }

    private static void place(String text, int want) {
        BigCalculator x = new BigCalculator();
        due("compile of '" + text + "'", compileText(x, text), want);
    }

    private static void compileAnswers0() {
        place("1", 0);
        place("h", 0);
        place("-1", 0);
        place("(1)", 0);
        place("R(-1)", 0);
        place("1/0", 0);
        place("M(G(1,2),R(3),M(4,5,6))+1", 0);
        place("(".repeat(59) + "1" + ")".repeat(59), 0);
        place("(".repeat(59) + "-1" + ")".repeat(59), 0);
        place("1" + "+1".repeat(59), 0);
    }

    private static void firstWrongToken() {
        place("+", 1);
        place(")", 1);
        place(",", 1);
        place("+ 1", 1);
        place("1 2", 2);
        place("1 2 ) )", 2);
        place(") 1 2", 1);
        place("1 + + +", 3);
        place("( 1 , 2 )", 3);
        place("G ( 1 )", 4);
        place("G 1 )", 2);
        place("1 + ( 2 * 3 ) )", 8);
        place("-".repeat(118) + "1 2", 120);
        place("-".repeat(119) + ")", 120);
        place("1 " + "+1".repeat(59) + ")", 120);
        place("1 2" + "+1".repeat(59), 2);
    }

    private static void moreMustFollow() {
        place("", 1);
        place("-", 2);
        place("(", 2);
        place("G", 2);
        place("1+", 3);
        place("1*", 3);
        place("2^", 3);
        place("(1", 3);
        place("((1)", 5);
        place("R(", 3);
        place("R(1", 4);
        place("G(1", 4);
        place("G(1,", 5);
        place("G(1,2", 6);
        place("M(1,2,3", 8);
        place("1" + "+1".repeat(59) + "+", 121);
        place("(".repeat(119) + "1", 121);
        place("(".repeat(118) + "1", 120);
    }

    private static void elevenRegisters() {
        place("1^1^1^1^1^1^1^1^1^1", 0);
        place("1^1^1^1^1^1^1^1^1^1^1", -2);
        place("1-(".repeat(9) + "1" + ")".repeat(9), 0);
        place("1-(".repeat(10) + "1" + ")".repeat(10), -2);
        place("1^1^1^1^1^1^1^1^1^1^1^1", -2);
        place("2+1^1^1^1^1^1^1^1^1^1", -2);
        place("1^1^1^1^1^1^1^1^1^1+2", 0);
        place("1^1^1^1^1^1^1^1^M(1,1,1)", -2);
        place("1^1^1^1^1^1^1^M(1,1,1)", 0);
        place("1^1^1^1^1^1^1^1^1^G(1,1)", -2);
        place("1^1^1^1^1^1^1^1^G(1,1)", 0);
        place("1^1^1^1^1^1^1^1^1^R(-1)", 0);
    }

    private static void wrongTokenAheadOfRegisters() {
        place("1^1^1^1^1^1^1^1^1^1^1)", 22);
        place("1^1^1^1^1^1^1^1^1^1^1 2", 22);
        place("1^1^1^1^1^1^1^1^1^1^1^", 23);
        place("(1^1^1^1^1^1^1^1^1^1^1", 23);
        place("1+(".repeat(10) + "1" + ")".repeat(11), 42);
        place("1+(".repeat(10) + "1" + ")".repeat(9), 41);
    }

    private static void without0NoCode() {
        withoutCode((x, state) -> {
            for (int what = 1; what <= 5; what++) {
                due(state + ": count(" + what + ")", x.count(what), 0);
            }
            dueThrow(state + ": run(1)", () -> x.run(1), ISE);
            dueThrow(state + ": restart()", x::restart, ISE);
        });
    }

    private static void setNumbers() {
        for (long value : new long[] {0, 1, -1, 4294967295L, 4294967296L, -4294967295L, -4294967296L,
                Long.MAX_VALUE, Long.MAX_VALUE - 1, Long.MIN_VALUE, Long.MIN_VALUE + 1}) {
            for (int v = 0; v < 8; v++) {
                BigCalculator x = new BigCalculator();
                x.set(v, 77);
                x.set(v, value);
                compileText(x, name(v));
                x.run(1);
                dueResult("set(" + v + ", " + value + ")", x, BigInteger.valueOf(value));
                due("the sign of it", x.sign(), Long.signum(value));
            }
        }
        BigCalculator y = new BigCalculator();
        put(y, 0, GREATEST);
        y.set(0, -3);
        compileText(y, "a");
        y.run(1);
        dueResult("a small number where a great one was", y, BigInteger.valueOf(-3));
    }

    private static void setInAnyState() {
        BigCalculator x = compiled("a+a");
        x.set(0, 5);
        x.run(1);
        x.set(0, 7);
        x.run(2);
        dueResult("a variable is read when its instruction is done", x, BigInteger.valueOf(12));
        x.set(0, 9);
        dueResult("set leaves the result", x, BigInteger.valueOf(12));
        due("but not the variable", x.compare(0), 1);
        BigCalculator y = compiled("1/a");
        due("run", y.run(3), 2);
        y.set(0, 1);
        counts(y, "set leaves a failure", 0, 3, 2, 2, 2, 0, -1, -1);
    }

    private static void setRefused() {
        BigCalculator x = new BigCalculator();
        for (int v : NO_VARIABLES) {
            dueThrow("set(" + v + ", 1)", () -> x.set(v, 1), IAE);
        }
        dueThrow("set(0, 1)", () -> x.set(0, 1), NOTHING);
        dueThrow("set(7, 1)", () -> x.set(7, 1), NOTHING);
    }

    private static void kept(BigInteger number) {
        BigCalculator x = new BigCalculator();
        put(x, 0, number);
        for (int v = 1; v < 7; v++) {
            compileText(x, "a");
            x.run(1);
            x.keep(v);
            dueResult("keep leaves the result", x, number);
            due("what was kept", x.compare(v), 0);
            compileText(x, "-" + name(v));
            x.run(2);
            dueResult("less what was kept", x, number.negate());
        }
    }

    private static void keepResults() {
        kept(BigInteger.ZERO);
        kept(BigInteger.ONE);
        kept(BigInteger.ONE.negate());
        kept(powerOfTwo(32));
        kept(GREATEST);
        kept(GREATEST.negate());
        BigCalculator x = compiled("a+1");
        for (int i = 1; i <= 5; i++) {
            x.restart();
            x.run(3);
            x.keep(0);
            dueResult("a kept as its own next one", x, BigInteger.valueOf(i));
        }
    }

    private static void keptStays() {
        BigCalculator x = done("2^700");
        x.keep(0);
        x.keep(7);
        x.restart();
        x.run(1);
        compileText(x, "5-7");
        x.run(3);
        x.keep(0);
        due("variable 0", x.compare(0), 0);
        compileText(x, "h");
        x.run(1);
        dueResult("variable 7", x, powerOfTwo(700));
        compileText(x, "1+");
        compileText(x, "a");
        x.run(1);
        dueResult("variable 0", x, BigInteger.valueOf(-2));
    }

    private static void keepRefused() {
        BigCalculator x = done("5");
        for (int v : NO_VARIABLES) {
            dueThrow("keep(" + v + ")", () -> x.keep(v), IAE);
        }
        dueThrow("keep(0)", () -> x.keep(0), NOTHING);
        dueThrow("keep(7)", () -> x.keep(7), NOTHING);
    }

    private static void keepWithoutResult() {
        withoutResult((x, state) -> {
            for (int v = 0; v < 8; v++) {
                int variable = v;
                dueThrow(state + ": keep(" + v + ")", () -> x.keep(variable), ISE);
            }
            for (int v : NO_VARIABLES) {
                dueThrow(state + ": keep(" + v + ")", () -> x.keep(v), IAE);
            }
        });
    }

    private static void restartBeginsAnew() {
        BigCalculator x = compiled("a*2");
        x.set(0, 5);
        x.restart();
        counts(x, "restart at first", 0, 3, 0, 0, 0, 0, -1, -1);
        x.run(2);
        x.restart();
        counts(x, "restart on the way", 0, 3, 0, 0, 0, 0, -1, -1);
        due("run", x.run(3), 0);
        dueResult("first", x, BigInteger.valueOf(10));
        x.set(0, -6);
        feedText(x, "1");
        x.restart();
        x.restart();
        counts(x, "restart at the end", 1, 3, 0, 0, 0, 0, -1, -1);
        due("run", x.run(2), 1);
        due("run", x.run(1), 0);
        dueResult("second", x, BigInteger.valueOf(-12));
        BigCalculator y = compiled("1/a");
        due("run", y.run(5), 2);
        y.restart();
        counts(y, "restart behind a failure", 0, 3, 0, 0, 0, 0, -1, -1);
        due("it fails again", y.run(5), 2);
        y.restart();
        y.set(0, 1);
        due("it is done", y.run(5), 0);
    }

    private static void restartWithoutCode() {
        withoutCode((x, state) -> dueThrow(state + ": restart()", x::restart, ISE));
        dueThrow("restart() with code", () -> compiled("1").restart(), NOTHING);
    }

    private static void upToN() {
        BigCalculator x = compiled("1+2*3");
        int done = 0;
        for (int n : new int[] {0, 1, 0, 2, 1, 0}) {
            due("run(" + n + ")", x.run(n), 1);
            done += n;
            due("done", x.count(2), done);
        }
        due("run(2) with one left", x.run(2), 0);
        due("done", x.count(2), 5);
        x.restart();
        due("run(5) of 5", x.run(5), 0);
        due("done", x.count(2), 5);
        x.restart();
        due("run(4) of 5", x.run(4), 1);
        due("done", x.count(2), 4);
        BigCalculator y = compiled("-".repeat(119) + "1");
        due("run(119) of 120", y.run(119), 1);
        due("run(1)", y.run(1), 0);
    }

    private static void allIsDone() {
        BigCalculator x = compiled("7");
        due("run(1) of 1", x.run(1), 0);
        due("run(0) at the end", x.run(0), 0);
        due("run(1) at the end", x.run(1), 0);
        due("run(10000) at the end", x.run(10000), 0);
        counts(x, "the end", 0, 1, 1, 1, 1, 1, 3, 1);
        dueResult("7", x, BigInteger.valueOf(7));
        due("run(10000) of 3", compiled("1+2").run(10000), 0);
    }

    private static void notYet() {
        BigCalculator x = compiled("7");
        due("run(0) of 1", x.run(0), 1);
        counts(x, "run(0)", 0, 1, 0, 0, 0, 0, -1, -1);
        BigCalculator y = compiled("1/0");
        due("run(2), just ahead of what can't be done", y.run(2), 1);
        due("run(0), just ahead of what can't be done", y.run(0), 1);
    }

    private static void failure(String text, int want, int doneAhead, int usedAhead) {
        BigCalculator x = compiled(text);
        due(text + ": up to it", x.run(doneAhead), 1);
        due(text + ": registers ahead of it", x.count(3), usedAhead);
        due(text + ": one more", x.run(1), want);
        due(text + ": done", x.count(2), doneAhead);
        due(text + ": registers", x.count(3), usedAhead);
        due(text + ": a result", x.count(5), 0);
        x.restart();
        due(text + ": at one go", x.run(10000), want);
        due(text + ": done at one go", x.count(2), doneAhead);
        due(text + ": registers at one go", x.count(3), usedAhead);
    }

    private static void oneCouldNotBeDone() {
        failure("1/0", 2, 2, 2);
        failure("2^-1", 3, 3, 2);
        failure("R(-1)", 4, 2, 1);
        failure("M(1,1,-1)", 5, 4, 3);
        failure("2^768", 6, 2, 2);
        BigCalculator x = compiled("1/0");
        due("run(3), and the third can't be done", x.run(3), 2);
        dueThrow("sign()", x::sign, ISE);
    }

    private static void stays(String text, int want) {
        BigCalculator x = compiled(text);
        x.set(1, 1);
        due(text, x.run(10000), want);
        x.set(0, 1);
        for (int n : new int[] {0, 1, 2, 10000, 0}) {
            due(text + ": run(" + n + ") again, though it could be done now", x.run(n), want);
        }
        dueThrow(text + ": run(-1)", () -> x.run(-1), IAE);
        dueThrow(text + ": run(10001)", () -> x.run(10001), IAE);
        due(text + ": again", x.run(1), want);
        feedText(x, "1");
        due(text + ": again with a token that waits", x.run(1), want);
        x.restart();
        due(text + ": begun anew, not yet", x.run(0), 1);
        due(text + ": begun anew, done", x.run(10000), 0);
        x.set(0, 0);
        x.restart();
        due(text + ": begun anew, not done", x.run(10000), want);
        due(text + ": other code", compileText(x, "+3"), 0);
        due(text + ": other code begins anew", x.run(3), 0);
    }

    private static void sameAnswerAgain() {
        stays("1+5/a", 2);
        stays("1+5%a", 2);
        stays("M(1,1,a)", 2);
        stays("2^(a-b)", 3);
        stays("R(a-b)", 4);
        stays("M(1,1,a*2-b)", 5);
        stays("2^(768-a)", 6);
    }

    private static void registersAsAhead() {
        failure("1/0+5", 2, 2, 2);
        failure("5+0/0", 2, 3, 3);
        failure("1^1^1^1^1^1^1^1^(1/0)", 2, 10, 10);
        failure("1^1^1^1^1^1^1^M(1,1,0)", 2, 10, 10);
        failure("1+2^-1", 3, 4, 3);
        failure("1+R(-1)", 4, 3, 2);
        failure("1+M(1,1,-1)", 5, 5, 4);
        failure("1+2^2147483647*0", 6, 3, 3);
        BigCalculator x = compiled("(1+(2+3))/0");
        due("run", x.run(100), 2);
        counts(x, "the most is as ahead of it, too", 0, 7, 6, 2, 3, 0, -1, -1);
    }

    private static void divisorIs0() {
        failure("1/0", 2, 2, 2);
        failure("1%0", 2, 2, 2);
        failure("0/0", 2, 2, 2);
        failure("0%0", 2, 2, 2);
        failure("1/(2-2)", 2, 4, 2);
        failure("-1%-0", 2, 4, 2);
        failure("2^767/0", 2, 4, 2);
        failure("M(1,1,0)", 2, 3, 3);
        failure("M(0,0,0)", 2, 3, 3);
        value("1/1", 1);
        value("0/-1", 0);
        value("1%-1", 0);
    }

    private static void exponentBelow0() {
        failure("2^-1", 3, 3, 2);
        failure("0^-1", 3, 3, 2);
        failure("1^-1", 3, 3, 2);
        failure("(-1)^-1", 3, 4, 2);
        failure("2^-2147483647", 3, 3, 2);
        failure("2^-(2^767)", 3, 5, 2);
        failure("M(1,-1,1)", 3, 4, 3);
        failure("M(3,-1,7)", 3, 4, 3);
        value("2^-0", 1);
        value("M(3,-0,7)", 1);
    }

    private static void rootOfOneBelow0() {
        failure("R(-1)", 4, 2, 1);
        failure("R(-4)", 4, 2, 1);
        failure("1+R(-(2^767))", 4, 5, 2);
        value("R(-0)", 0);
        value("R(0)", 0);
    }

    private static void modulusBelow0() {
        failure("M(1,1,-1)", 5, 4, 3);
        failure("M(0,0,-5)", 5, 4, 3);
        failure("M(2,3,-(2^767))", 5, 6, 3);
        value("M(1,1,1)", 0);
        value("5%-3", -1);
    }

    private static void valueTooGreat() {
        failure("2^768", 6, 2, 2);
        failure("2^767*2", 6, 4, 2);
        failure("2^767+2^767", 6, 6, 2);
        failure("-(2^767)-2^767", 6, 7, 2);
        failure("(-2)^768", 6, 3, 2);
        failure("1+2^2147483647*0", 6, 3, 3);
        failure("(2^767+2^767)-1", 6, 6, 2);
        value("2^767-1+2^767", GREATEST);
        value("M(2,2147483647,7)", 2);
    }

    private static void firstOfSeveral() {
        failure("M(1,-1,0)", 2, 4, 3);
        failure("M(2,-1,0)", 2, 4, 3);
        failure("M(0,-1,0)", 2, 4, 3);
        failure("M(1,-1,-1)", 3, 5, 3);
        failure("M(2,-2147483647,-1)", 3, 5, 3);
    }

    private static void runWithoutCode() {
        withoutCode((x, state) -> {
            for (int n : new int[] {0, 1, 10000, -1, 10001, Integer.MIN_VALUE, Integer.MAX_VALUE}) {
                dueThrow(state + ": run(" + n + ")", () -> x.run(n), ISE);
            }
        });
    }

    private static void runRefusedN() {
        BigCalculator x = compiled("1+2");
        int[] answers = {1, 1, 0};
        for (int i = 0; i < answers.length; i++) {
            for (int n : new int[] {-1, 10001, Integer.MIN_VALUE, Integer.MAX_VALUE}) {
                dueThrow("run(" + n + ")", () -> x.run(n), IAE);
            }
            due("done", x.count(2), i);
            due("run(1)", x.run(1), answers[i]);
        }
        dueThrow("run(-1) at the end", () -> x.run(-1), IAE);
        dueThrow("run(10001) at the end", () -> x.run(10001), IAE);
        dueThrow("run(0)", () -> x.run(0), NOTHING);
        dueThrow("run(10000)", () -> x.run(10000), NOTHING);
        BigCalculator y = compiled("1/0");
        y.run(3);
        dueThrow("run(-1) behind a failure", () -> y.run(-1), IAE);
        dueThrow("run(10001) behind a failure", () -> y.run(10001), IAE);
    }

    private static void signs() {
        due("sign of 1", done("1").sign(), 1);
        due("sign of -1", done("-1").sign(), -1);
        due("sign of 0", done("0").sign(), 0);
        due("sign of 5-5", done("5-5").sign(), 0);
        due("sign of -0", done("-0").sign(), 0);
        due("sign of -(5-5)", done("-(5-5)").sign(), 0);
        due("sign of 0*-5", done("0*-5").sign(), 0);
        due("sign of -5*0", done("-5*0").sign(), 0);
        due("sign of -5+5", done("-5+5").sign(), 0);
        due("sign of 0/-5", done("0/-5").sign(), 0);
        due("sign of 10%-5", done("10%-5").sign(), 0);
        due("sign of (-0)^3", done("(-0)^3").sign(), 0);
        due("sign of 2^767", done("2^767").sign(), 1);
        due("sign of -(2^767)", done("-(2^767)").sign(), -1);
        due("sign of 2^32-2^32", done("2^32-2^32").sign(), 0);
    }

    private static void limbs() {
        BigInteger number = BigInteger.ZERO;
        for (int i = 23; i >= 0; i--) {
            number = number.shiftLeft(32).add(BigInteger.valueOf(0xABCD0000L + i));
        }
        for (BigInteger each : new BigInteger[] {number, number.negate()}) {
            BigCalculator x = new BigCalculator();
            put(x, 0, each);
            compileText(x, "a");
            x.run(1);
            for (int i = 0; i < 24; i++) {
                due("limb(" + i + ")", x.limb(i), 0xABCD0000L + i);
            }
            compileText(x, "7");
            x.run(1);
            due("limb(0) of 7", x.limb(0), 7);
            for (int i = 1; i < 24; i++) {
                due("limb(" + i + ") of 7, behind a great number", x.limb(i), 0);
            }
        }
        due("limb(0) of 0", done("0").limb(0), 0);
        due("limb(0) of 2^32", done("2^32").limb(0), 0);
        due("limb(1) of 2^32", done("2^32").limb(1), 1);
    }

    private static void limbsWithoutSign() {
        due("limb(0) of 2^32-1", done("2^32-1").limb(0), 4294967295L);
        due("limb(0) of 2^31", done("2^31").limb(0), 2147483648L);
        due("limb(0) of -(2^31)", done("-(2^31)").limb(0), 2147483648L);
        due("limb(1) of 2^63", done("2^63").limb(1), 2147483648L);
        BigCalculator x = done("-(2^767)-(2^767-1)");
        for (int i = 0; i < 24; i++) {
            due("limb(" + i + ") of -(2^768-1)", x.limb(i), 4294967295L);
        }
    }

    private static void limbWithoutResult() {
        withoutResult((x, state) -> {
            for (int i : new int[] {0, 23, -1, 24, Integer.MIN_VALUE, Integer.MAX_VALUE}) {
                dueThrow(state + ": limb(" + i + ")", () -> x.limb(i), ISE);
            }
        });
    }

    private static void limbRefused() {
        for (String text : new String[] {"0", "7", "2^767"}) {
            BigCalculator x = done(text);
            for (int i : new int[] {-1, 24, 25, Integer.MIN_VALUE, Integer.MAX_VALUE}) {
                dueThrow("limb(" + i + ") of " + text, () -> x.limb(i), IOOBE);
            }
            dueThrow("limb(0) of " + text, () -> x.limb(0), NOTHING);
            dueThrow("limb(23) of " + text, () -> x.limb(23), NOTHING);
        }
    }

    private static BigCalculator holding(BigInteger number) {
        BigCalculator x = new BigCalculator();
        put(x, 0, number);
        compileText(x, "a");
        x.run(1);
        return x;
    }

    private static void digitsOf(BigInteger number) {
        BigCalculator x = holding(number);
        String text = number.abs().toString();
        for (int i = 0; i < text.length(); i++) {
            due("digit(" + i + ") of " + number, x.digit(i), text.charAt(text.length() - 1 - i) - '0');
        }
        dueResult("digit leaves the result", x, number);
    }

    private static void digits() {
        digitsOf(BigInteger.ZERO);
        digitsOf(GREATEST);
        digitsOf(GREATEST.negate());
        for (int i : new int[] {0, 1, 8, 9, 10, 17, 18, 19, 27, 100, 230, 231}) {
            digitsOf(BigInteger.TEN.pow(i));
            digitsOf(BigInteger.TEN.pow(i).subtract(BigInteger.ONE).negate());
        }
        digitsOf(new BigInteger("1234567890".repeat(23)));
    }

    private static void digitsAbove() {
        for (BigInteger number : new BigInteger[] {BigInteger.ZERO, BigInteger.TEN, BigInteger.valueOf(-999999999),
                BigInteger.valueOf(1000000000), GREATEST, GREATEST.negate()}) {
            BigCalculator x = holding(number);
            int length = number.abs().toString().length();
            for (int i = length; i < length + 30; i++) {
                due("digit(" + i + ") of " + number, x.digit(i), 0);
            }
            for (int i : new int[] {231 + length, 768, 10000, Integer.MAX_VALUE - 1, Integer.MAX_VALUE}) {
                due("digit(" + i + ") of " + number, x.digit(i), 0);
            }
        }
        BigCalculator y = done("2^767+(2^767-1)");
        due("digit(231) of 2^768-1, its highest", y.digit(231), GREATEST.toString().charAt(0) - '0');
        due("digit(232) of 2^768-1", y.digit(232), 0);
    }

    private static void digitWithoutResult() {
        withoutResult((x, state) -> {
            for (int i : new int[] {0, 231, 1000, -1, Integer.MIN_VALUE, Integer.MAX_VALUE}) {
                dueThrow(state + ": digit(" + i + ")", () -> x.digit(i), ISE);
            }
        });
    }

    private static void digitRefused() {
        for (String text : new String[] {"0", "7", "2^767"}) {
            BigCalculator x = done(text);
            for (int i : new int[] {-1, -2, -1000, Integer.MIN_VALUE}) {
                dueThrow("digit(" + i + ") of " + text, () -> x.digit(i), IOOBE);
            }
            dueThrow("digit(0) of " + text, () -> x.digit(0), NOTHING);
            dueThrow("digit(greatest) of " + text, () -> x.digit(Integer.MAX_VALUE), NOTHING);
        }
    }

    private static void compared() {
        BigCalculator x = new BigCalculator();
        long[] values = {Long.MIN_VALUE, -4294967296L, -4294967295L, -1, 0, 1, 4294967295L, Long.MAX_VALUE};
        for (int v = 0; v < 8; v++) {
            x.set(v, values[v]);
        }
        for (int v = 0; v < 8; v++) {
            compileText(x, name(v));
            x.run(1);
            for (int other = 0; other < 8; other++) {
                due(values[v] + " less " + values[other], x.compare(other), Long.compare(values[v], values[other]));
            }
        }
        comparedWithGreat("2^700", "2^700-1", "2^700", "2^700+1", "-(2^700)", "2^668", "2^701", "0");
        comparedWithGreat("-(2^700)", "-(2^700)-1", "-(2^700)", "1-2^700", "2^700", "-(2^701)", "-1", "0");
        BigCalculator y = new BigCalculator();
        put(y, 0, GREATEST);
        compileText(y, "-a");
        y.run(2);
        due("-(2^768-1) less 2^768-1, though the difference is too great", y.compare(0), -1);
        y.keep(1);
        compileText(y, "a");
        y.run(1);
        due("2^768-1 less -(2^768-1), though the difference is too great", y.compare(1), 1);
        due("2^768-1 less itself", y.compare(0), 0);
    }

    private static void comparedWithGreat(String great, String... others) {
        BigCalculator x = done(great);
        BigInteger number = resultOf(x);
        x.keep(0);
        for (String text : others) {
            compileText(x, text);
            x.run(10);
            due(text + " less " + great, x.compare(0), resultOf(x).compareTo(number));
        }
    }

    private static void compareRefused() {
        BigCalculator x = done("5");
        for (int v : NO_VARIABLES) {
            dueThrow("compare(" + v + ")", () -> x.compare(v), IAE);
        }
        dueThrow("compare(0)", () -> x.compare(0), NOTHING);
        dueThrow("compare(7)", () -> x.compare(7), NOTHING);
    }

    private static void compareWithoutResult() {
        withoutResult((x, state) -> {
            for (int v = 0; v < 8; v++) {
                int variable = v;
                dueThrow(state + ": compare(" + v + ")", () -> x.compare(variable), ISE);
            }
            for (int v : NO_VARIABLES) {
                dueThrow(state + ": compare(" + v + ")", () -> x.compare(v), IAE);
            }
        });
    }

    private static void countTokens() {
        BigCalculator x = new BigCalculator();
        for (int i = 0; i < 120; i++) {
            due("count(0)", x.count(0), i);
            x.feed(3, 0);
        }
        due("count(0) when full", x.count(0), 120);
        x.feed(3, 0);
        due("count(0) behind NONE", x.count(0), 120);
        x.compile();
        due("count(0) behind compile", x.count(0), 0);
        BigCalculator y = compiled("1+2");
        feedText(y, "7*");
        y.run(3);
        y.restart();
        due("count(0) behind run and restart", y.count(0), 2);
    }

    private static void countInstructions() {
        withoutCode((x, state) -> due(state + ": count(1)", x.count(1), 0));
        BigCalculator x = compiled("1+2");
        due("count(1)", x.count(1), 3);
        x.run(2);
        due("count(1) on the way", x.count(1), 3);
        x.run(2);
        due("count(1) at the end", x.count(1), 3);
        feedText(x, "5");
        due("count(1) with a token that waits", x.count(1), 3);
        due("count(1) at most", compiled("-".repeat(119) + "1").count(1), 120);
        BigCalculator y = compiled("1/0");
        y.run(9);
        due("count(1) behind a failure", y.count(1), 3);
    }

    private static void countDone() {
        withoutCode((x, state) -> due(state + ": count(2)", x.count(2), 0));
        BigCalculator x = compiled("1+2");
        for (int i = 0; i <= 3; i++) {
            due("count(2)", x.count(2), i);
            x.run(1);
        }
        due("count(2) at the end", x.count(2), 3);
        x.restart();
        due("count(2) anew", x.count(2), 0);
        BigCalculator y = compiled("5+1/0");
        y.run(9);
        due("count(2) without the one that could not be done", y.count(2), 3);
        y.run(9);
        due("count(2) of no more", y.count(2), 3);
    }

    private static void countInUse() {
        withoutCode((x, state) -> due(state + ": count(3)", x.count(3), 0));
        BigCalculator x = compiled("M(2,3,5)-1");
        for (int used : new int[] {0, 1, 2, 3, 1, 2, 1, 1}) {
            due("count(3)", x.count(3), used);
            x.run(1);
        }
        x.restart();
        due("count(3) anew", x.count(3), 0);
    }

    private static void countMost() {
        withoutCode((x, state) -> due(state + ": count(4)", x.count(4), 0));
        BigCalculator x = compiled("M(2,3,5)-(1-(2-(3-4)))");
        for (int most : new int[] {0, 1, 2, 3, 3, 3, 3, 4, 5, 5, 5, 5, 5}) {
            due("count(4)", x.count(4), most);
            x.run(1);
        }
        x.restart();
        due("count(4) anew", x.count(4), 0);
        x.run(1);
        due("count(4) since it began", x.count(4), 1);
        compileText(x, "1");
        due("count(4) of other code", x.count(4), 0);
        BigCalculator y = done("1^1^1^1^1^1^1^1^1^1");
        due("count(4) at most", y.count(4), 10);
    }

    private static void countResult() {
        withoutResult((x, state) -> due(state + ": count(5)", x.count(5), 0));
        BigCalculator x = done("0");
        due("count(5)", x.count(5), 1);
        feedText(x, "1+");
        due("count(5) with tokens that wait", x.count(5), 1);
        x.run(0);
        x.keep(3);
        x.set(4, 9);
        due("count(5) behind run, keep and set", x.count(5), 1);
        dueThrow("run(-1)", () -> x.run(-1), IAE);
        due("count(5) behind a throw", x.count(5), 1);
    }

    private static void countBits() {
        due("bits of 0", done("0").count(6), 0);
        due("bits of 5-5", done("5-5").count(6), 0);
        due("bits of 1", done("1").count(6), 1);
        due("bits of -1", done("-1").count(6), 1);
        for (int i : new int[] {1, 2, 31, 32, 33, 63, 64, 65, 766, 767}) {
            due("bits of 2^" + i, done("2^" + i).count(6), i + 1);
            due("bits of -(2^" + i + ")", done("-(2^" + i + ")").count(6), i + 1);
            due("bits of 2^" + i + "-1", done("2^" + i + "-1").count(6), i);
        }
        due("bits of 2^768-1", done("2^767+(2^767-1)").count(6), 768);
    }

    private static void countDigits() {
        due("digits of 0", done("0").count(7), 1);
        due("digits of 5-5", done("5-5").count(7), 1);
        due("digits of 9", done("9").count(7), 1);
        due("digits of -9", done("-9").count(7), 1);
        for (int i : new int[] {1, 2, 8, 9, 10, 17, 18, 19, 230, 231}) {
            due("digits of 10^" + i, done("10^" + i).count(7), i + 1);
            due("digits of -(10^" + i + ")", done("-(10^" + i + ")").count(7), i + 1);
            due("digits of 10^" + i + "-1", done("10^" + i + "-1").count(7), i);
        }
        BigCalculator x = done("2^767+(2^767-1)");
        due("digits of 2^768-1", x.count(7), 232);
        dueResult("count leaves the result", x, GREATEST);
    }

    private static void countWithoutResult() {
        withoutResult((x, state) -> {
            due(state + ": count(6)", x.count(6), -1);
            due(state + ": count(7)", x.count(7), -1);
        });
    }

    private static void countOthers() {
        BigCalculator x = new BigCalculator();
        BigCalculator y = done("1");
        for (int what : new int[] {-1, 8, 9, -2, Integer.MIN_VALUE, Integer.MAX_VALUE}) {
            due("new: count(" + what + ")", x.count(what), -1);
            due("with a result: count(" + what + ")", y.count(what), -1);
        }
    }
}
