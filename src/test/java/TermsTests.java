import java.math.BigInteger;

/** A test for each sentence of the document's "What it is" and "Terms", with the boundary that it names. */
public final class TermsTests extends Checks {
    public static void main(String[] args) {
        tokens();
        grammar();
        values();
        codeAndRegisters();
        end();
    }

    private static void tokens() {
        sentence("each result is exactly the number that it should be (limbs at their edges)", TermsTests::exactAtEdges);
        sentence("each result is exactly the number that it should be (one behind the other)", TermsTests::exactInARow);
        sentence("An object is used for at most 512 calls after it has been made", TermsTests::calls512);
        sentence("0 a NUMBER (0 .. 2^31 - 1)", TermsTests::numberTokens);
        sentence("1 a VARIABLE (0 .. 7)", TermsTests::variableTokens);
        sentence("2 PLUS, 3 MINUS, 4 TIMES, .. 13 MODULAR", TermsTests::kindsOfTokens);
        sentence("value 0 for all but the first two", TermsTests::valuesOfOtherTokens);
        sentence("TOKENS: .. At most 120", TermsTests::atMost120Tokens);
    }

    private static void grammar() {
        sentence("E: one or more SUMMANDS, plus or minus between", TermsTests::summands);
        sentence("a summand: one or more FACTORS, times, divide or rest between", TermsTests::factors);
        sentence("both from the left", TermsTests::fromTheLeft);
        sentence("a factor: minus, and a factor", TermsTests::minusAhead);
        sentence("or an ATOM, perhaps POWER and a factor behind it", TermsTests::powers);
        sentence("so -2 ^ 2 is -4, and 2 ^ 3 ^ 2 is 2 ^ 9", TermsTests::powersBindTightest);
        sentence("ATOM: a number; a variable", TermsTests::plainAtoms);
        sentence("ATOM: open, E, close", TermsTests::brackets);
        sentence("ATOM: GCD, open, E, comma, E, close", TermsTests::gcdParts);
        sentence("ATOM: ROOT, open, E, close", TermsTests::rootParts);
        sentence("ATOM: MODULAR, open, E, comma, E, comma, E, close", TermsTests::modularParts);
    }

    private static void values() {
        sentence("VALUES are whole numbers", TermsTests::wholeNumbers);
        sentence("a DIVIDE b is the greatest whole number not above a / b", TermsTests::quotients);
        sentence("a REST b is a less b times that", TermsTests::rests);
        sentence("a POWER b for b not below 0", TermsTests::exponents);
        sentence("0 POWER 0 is 1", () -> value("0^0", 1));
        sentence("GCD is never below 0", TermsTests::gcdIsNeverBelow0);
        sentence("GCD .. of 0 and 0 is 0", () -> value("G(0,0)", 0));
        sentence("ROOT of a not below 0 is the greatest whole number whose square is not above it", TermsTests::roots);
        sentence("MODULAR a, b, m is (a POWER b) REST m", TermsTests::modularValues);
        sentence("MODULAR .. for b not below 0 and m above 0", TermsTests::modularBounds);
        sentence("A value is TOO GREAT if its magnitude is not below 2^768: sums", TermsTests::greatestSums);
        sentence("A value is TOO GREAT if its magnitude is not below 2^768: products", TermsTests::greatestProducts);
        sentence("A value is TOO GREAT if its magnitude is not below 2^768: powers", TermsTests::greatestPowers);
        sentence("A value is TOO GREAT .. (and what is below is not)", TermsTests::neverTooGreat);
        sentence("Variables have values of their own", TermsTests::variablesOfTheirOwn);
        sentence("Variables .. 0 at first", TermsTests::variablesAtFirst);
    }

    private static void codeAndRegisters() {
        sentence("CODE: one INSTRUCTION for each number, variable and sign", TermsTests::instructionForEach);
        sentence("minus ahead of a factor, too", TermsTests::instructionForMinusAhead);
        sentence("DIVIDE and REST, POWER, GCD, ROOT, MODULAR one each", TermsTests::instructionForFunctions);
        sentence("each when all that it needs is there", TermsTests::whenAllIsThere);
        sentence("that which stands before first", TermsTests::beforeFirst);
        sentence("REGISTERS: 10", TermsTests::tenRegisters);
        sentence("what is there and not used yet is in one each", TermsTests::oneRegisterEach);
        sentence("A call that throws changes nothing", TermsTests::throwingChangesNothing);
    }

    private static void exact(BigCalculator x, String text, BigInteger want) {
        due("compile of " + text, compileText(x, text), 0);
        due("run of " + text, x.run(10000), 0);
        dueResult(text, x, want);
    }

    private static void exactPair(BigInteger a, BigInteger b) {
        String pair = " of " + a.toString(16) + " and " + b.toString(16) + ", both in base 16";
        BigCalculator x = new BigCalculator();
        put(x, 0, a);
        put(x, 1, b);
        int before = wrong;
        exact(x, "a+b", a.add(b));
        exact(x, "a-b", a.subtract(b));
        exact(x, "a/b", a.divide(b));
        exact(x, "a%b", a.mod(b));
        exact(x, "a/b*b+a%b", a);
        exact(x, "G(a,b)", a.gcd(b));
        if (wrong != before) {
            System.out.println("that was" + pair);
        }
    }

    /** Numbers at which a guess of a quotient's limb from the highest limbs alone is too great. */
    private static void exactAtEdges() {
        String[] pairs = {
            "7fffffff800000000000000000000000 800000000000000000000001",
            "80000000fffffffe00000000 80000000ffffffff",
            "80000000000000000000000000000000 80000000ffffffff",
            "8000000000000000fffffffeffffffff 8000000000000000ffffffff",
            "800000000000000000000000 80000001ffffffff",
            "800000000000000080000000 80000000fffffffe",
            "8000000000000001ffffffffffffffff 80000001ffffffffffffffff",
            "7fffffff80000000000000007fffffff 80000000800000017fffffff",
            "80000000000000008000000000000001 800000008000000180000000",
            "ffffffffffffffffffffffffffffffff ffffffff",
            "ffffffffffffffffffffffffffffffff 100000000",
            "ffffffff00000000ffffffff00000000 ffffffff00000001",
            "ffffffffffffffff00000000 ffffffffffffffff",
            "fffffffefffffffffffffffe ffffffffffffffff",
            "7fffffffffffffffffffffff 80000000ffffffff",
            "3fffffffffffffffffffffffc0000000 1ffffffffffffffff",
            "1000000000000000000000000 ffffffffffffffffffffffff",
            "ffffffffffffffffffffffff 1000000000000000000000000",
            "ffffffff 100000000",
            "100000000 ffffffff",
        };
        for (String pair : pairs) {
            int space = pair.indexOf(' ');
            exactPair(new BigInteger(pair.substring(0, space), 16), new BigInteger(pair.substring(space + 1), 16));
        }
        exactPair(GREATEST.shiftRight(1), powerOfTwo(384).subtract(BigInteger.ONE));
        exactPair(powerOfTwo(767).subtract(BigInteger.ONE), powerOfTwo(736).add(BigInteger.ONE));
    }

    /** What an earlier one leaves behind must not be seen in a later one. */
    private static void exactInARow() {
        BigCalculator x = new BigCalculator();
        exact(x, "100/7+1/5", BigInteger.valueOf(14));
        exact(x, "1/5", BigInteger.ZERO);
        exact(x, "100%7*100+3%5", BigInteger.valueOf(203));
        exact(x, "3^400", BigInteger.valueOf(3).pow(400));
        exact(x, "R(2^700+1)", powerOfTwo(350));
        exact(x, "3^400-3^400+R(2)", BigInteger.ONE);
        exact(x, "G(3^400,3)-G(2,4)", BigInteger.ONE);
        exact(x, "M(3,400,2^700)-M(3,400,2^700)+M(2,3,5)", BigInteger.valueOf(3));
        exact(x, "-(3^400)*0+2^32*2^32", powerOfTwo(64));
        exact(x, "(2^700)^1/2^699+0^2", BigInteger.TWO);
    }

    private static void calls512() {
        BigCalculator x = new BigCalculator();
        int calls = 0;
        for (int round = 1; round <= 100; round++) {
            due("call " + ++calls, x.feed(1, 0), 1);
            due("call " + ++calls, x.feed(2, 0), 2);
            due("call " + ++calls, x.feed(0, round), 3);
            due("call " + ++calls, x.compile(), 0);
            due("call " + ++calls, x.run(3), 0);
        }
        for (int i = 0; i < 8; i++) {
            due("call " + ++calls, x.digit(i), i < 3 ? i == 2 ? 1 : 0 : 0);
        }
        x.set(0, 5);
        x.restart();
        due("call 511", x.run(10000), 0);
        due("call 512", x.limb(0), 105);
        due("the calls in all", calls + 4, 512);
    }

    private static void numberTokens() {
        for (int number : new int[] {0, 1, Integer.MAX_VALUE - 1, Integer.MAX_VALUE}) {
            value(String.valueOf(number), number);
        }
        BigCalculator x = new BigCalculator();
        for (int number : new int[] {-1, -2, Integer.MIN_VALUE, Integer.MIN_VALUE + 1}) {
            dueThrow("feed(0, " + number + ")", () -> x.feed(0, number), IAE);
        }
    }

    private static void variableTokens() {
        BigCalculator x = new BigCalculator();
        for (int v = 0; v < 8; v++) {
            x.set(v, 100 + v);
        }
        for (int v = 0; v < 8; v++) {
            due("feed(1, " + v + ")", x.feed(1, v), 1);
            x.compile();
            x.run(1);
            dueResult("variable " + v, x, BigInteger.valueOf(100 + v));
        }
        for (int v : new int[] {-1, 8, 9, Integer.MIN_VALUE, Integer.MAX_VALUE}) {
            dueThrow("feed(1, " + v + ")", () -> x.feed(1, v), IAE);
        }
    }

    private static void kindsOfTokens() {
        value("7+3", 10);
        value("7-3", 4);
        value("7*3", 21);
        value("7/3", 2);
        value("8%3", 2);
        value("7^3", 343);
        value("7*(3+1)", 28);
        value("G(21,14)", 7);
        value("R(50)", 7);
        value("M(7,3,10)", 3);
        BigCalculator x = new BigCalculator();
        for (int kind : new int[] {-1, 14, 15, Integer.MIN_VALUE, Integer.MAX_VALUE}) {
            dueThrow("feed(" + kind + ", 0)", () -> x.feed(kind, 0), IAE);
        }
    }

    private static void valuesOfOtherTokens() {
        BigCalculator x = new BigCalculator();
        for (int kind = 2; kind <= 13; kind++) {
            int k = kind;
            due("feed(" + kind + ", 0)", x.feed(kind, 0), kind - 1);
            for (int value : new int[] {-1, 1, 7, kind, Integer.MIN_VALUE, Integer.MAX_VALUE}) {
                dueThrow("feed(" + kind + ", " + value + ")", () -> x.feed(k, value), IAE);
            }
        }
    }

    private static void atMost120Tokens() {
        BigCalculator x = new BigCalculator();
        feedText(x, "-1" + "+1".repeat(58) + "+");
        due("tokens", x.count(0), 119);
        due("feed of the 120th", x.feed(0, 3), 120);
        due("feed of the 121st", x.feed(2, 0), -1);
        due("compile of 120", x.compile(), 0);
        due("run", x.run(10000), 0);
        dueResult("-1 + 1 .. + 1 + 3", x, BigInteger.valueOf(60));
    }

    private static void place(String text, int want) {
        BigCalculator x = new BigCalculator();
        due("compile of '" + text + "'", compileText(x, text), want);
        due("compile of '" + text + "' leaves code", x.count(1) > 0 ? 1 : 0, want == 0 ? 1 : 0);
    }

    private static void summands() {
        value("4", 4);
        value("1+2-3+4", 4);
        value("1-2*3+4/2-5%3", -5);
        value("0-0", 0);
        value("1" + "+1".repeat(59), 60);
        place("", 1);
        place("+ 1", 1);
        place("1 +", 3);
        place("1 -", 3);
        place("1 + + 1", 3);
        place("1 - + 1", 3);
        place("1 2", 2);
        place("1 a", 2);
        place("1 + 2 3", 4);
    }

    private static void factors() {
        value("2*3", 6);
        value("2*3/4%5*6", 6);
        value("2" + "*1".repeat(59), 2);
        value("2*3^2", 18);
        value("-3*-4", 12);
        place("* 1", 1);
        place("/ 1", 1);
        place("% 1", 1);
        place("1 *", 3);
        place("1 /", 3);
        place("1 %", 3);
        place("1 * / 2", 3);
        place("1 % * 2", 3);
        place("1 + * 2", 3);
        place("1 * + 2", 3);
    }

    private static void fromTheLeft() {
        value("2-3-4", -5);
        value("2-3+4", 3);
        value("100/7/2", 7);
        value("100/(7/2)", 33);
        value("100%7*3", 6);
        value("7*100%3", 1);
        value("100/7%4*2", 4);
        value("100%60%7", 5);
    }

    private static void minusAhead() {
        value("-5", -5);
        value("--5", 5);
        value("-0", 0);
        value("1--1", 2);
        value("2*-3", -6);
        value("2*--3", 6);
        value("-(1-3)", 2);
        value("-".repeat(118) + "5", 5);
        value("-".repeat(119) + "5", -5);
        place("-", 2);
        place("- + 1", 2);
        place("- * 1", 2);
        place("- )", 2);
        place("-".repeat(120), 121);
    }

    private static void powers() {
        value("2^10", 1024);
        value("(1+1)^(2+1)", 8);
        value("R(4)^G(6,9)", 8);
        value("2^-0", 1);
        value("2^--3", 8);
        value("2^-(-3)", 8);
        value("a^2", 0);
        place("2 ^ - 1", 0);
        place("^ 2", 1);
        place("2 ^", 3);
        place("2 ^ -", 4);
        place("2 ^ + 1", 3);
        place("2 ^ * 2", 3);
        place("2 ^ ^ 2", 3);
        place("2 ^ )", 3);
    }

    private static void powersBindTightest() {
        value("-2^2", -4);
        value("(-2)^2", 4);
        value("2^3^2", 512);
        value("(2^3)^2", 64);
        value("-2^3^2", -512);
        value("2^-0^2", 1);
        value("2^-0*3", 3);
        value("--2^2", 4);
        value("1-2^2", -3);
        value("3*2^2", 12);
    }

    private static void plainAtoms() {
        value("17", 17);
        value("a", 0);
        place("1 2", 2);
        place("a b", 2);
        place("a (", 2);
        place("1 G", 2);
        place("1 R", 2);
        place("1 M", 2);
        place("( 1 ) 2", 4);
        place("( 1 ) ( 2 )", 4);
    }

    private static void brackets() {
        value("(1)", 1);
        value("(1+2)*(3+4)", 21);
        value("(".repeat(59) + "-7" + ")".repeat(59), -7);
        place("( )", 2);
        place("(", 2);
        place("( 1", 3);
        place(")", 1);
        place("1 )", 2);
        place("( 1 ) )", 4);
        place("( 1 , 2 )", 3);
        place("( ( 1 + 2 ) * 3", 9);
        place("( 1 + )", 4);
        place("( * 1 )", 2);
        place("(".repeat(120), 121);
        place("(".repeat(59) + "1" + ")".repeat(60), 120);
    }

    private static void gcdParts() {
        value("G(12,18)", 6);
        value("G(6+6,2*9)", 6);
        value("G((1),-2^3)", 1);
        value("G(G(12,18),M(3,3,6))", 3);
        place("G", 2);
        place("G 1", 2);
        place("G )", 2);
        place("G G", 2);
        place("G - ( 1 , 2 )", 2);
        place("G (", 3);
        place("G ( )", 3);
        place("G ( , 2 )", 3);
        place("G ( 1", 4);
        place("G ( 1 )", 4);
        place("G ( 1 ,", 5);
        place("G ( 1 , )", 5);
        place("G ( 1 , ,", 5);
        place("G ( 1 , 2", 6);
        place("G ( 1 , 2 , 3 )", 6);
        place("G ( ( 1 , 2 ) )", 5);
        place("1 ,", 2);
        place(",", 1);
    }

    private static void rootParts() {
        value("R(16)", 4);
        value("R(R(16)*4)", 4);
        value("R((16))", 4);
        place("R", 2);
        place("R 1", 2);
        place("R (", 3);
        place("R ( )", 3);
        place("R ( 1", 4);
        place("R ( 1 ,", 4);
        place("R ( 1 , 2 )", 4);
        place("R ( 1 ) )", 5);
    }

    private static void modularParts() {
        value("M(2,10,1000)", 24);
        value("M(G(4,6),R(100),M(10,3,1001))", 24);
        place("M", 2);
        place("M 1", 2);
        place("M ( )", 3);
        place("M ( 1 )", 4);
        place("M ( 1 , )", 5);
        place("M ( 1 , 2", 6);
        place("M ( 1 , 2 )", 6);
        place("M ( 1 , 2 , )", 7);
        place("M ( 1 , 2 , 3", 8);
        place("M ( 1 , 2 , 3 ,", 8);
        place("M ( 1 , 2 , 3 , 4 )", 8);
        place("M ( G ( 1 , 2 , 3 ) , R ( 3 ) , 6 )", 8);
        place("G ( 1 , M ( 2 , 3 ) )", 10);
        place("G ( 1 , M ( 2 , 3 , 4 ) )", 0);
    }

    private static void wholeNumbers() {
        value("1/2", 0);
        value("1/2*2", 0);
        value("7/2*2", 6);
        value("R(2)*R(2)", 1);
        value("-1/2", -1);
    }

    private static void quotients() {
        value("7/2", 3);
        value("-7/2", -4);
        value("7/-2", -4);
        value("-7/-2", 3);
        value("8/2", 4);
        value("-8/2", -4);
        value("8/-2", -4);
        value("-8/-2", 4);
        value("1/5", 0);
        value("-1/5", -1);
        value("1/-5", -1);
        value("-1/-5", 0);
        value("0/5", 0);
        value("0/-5", 0);
        value("5/5", 1);
        value("-5/5", -1);
        value("(2^700+1)/2^350", powerOfTwo(350));
        value("-(2^700+1)/2^350", powerOfTwo(350).add(BigInteger.ONE).negate());
        value("-(2^700)/2^350", powerOfTwo(350).negate());
        value("-1/2^767", -1);
    }

    private static void rests() {
        value("7%2", 1);
        value("-7%2", 1);
        value("7%-2", -1);
        value("-7%-2", -1);
        value("8%2", 0);
        value("-8%2", 0);
        value("8%-2", 0);
        value("-8%-2", 0);
        value("1%5", 1);
        value("-1%5", 4);
        value("1%-5", -4);
        value("-1%-5", -1);
        value("0%5", 0);
        value("0%-5", 0);
        value("5%1", 0);
        value("(2^700+1)%2^350", 1);
        value("-(2^700+1)%2^350", powerOfTwo(350).subtract(BigInteger.ONE));
        value("1%-(2^767)", powerOfTwo(767).subtract(BigInteger.ONE).negate());
        value("-1%2^767", powerOfTwo(767).subtract(BigInteger.ONE));
    }

    private static void answer(String text, int want) {
        due("run of " + text, compiled(text).run(10000), want);
    }

    private static void exponents() {
        value("5^0", 1);
        value("(-5)^0", 1);
        value("0^1", 0);
        value("5^1", 5);
        value("(-5)^1", -5);
        value("(-5)^2", 25);
        value("(-3)^3", -27);
        value("0^2147483647", 0);
        value("1^2147483647", 1);
        value("(-1)^2147483647", -1);
        value("(-1)^2147483646", 1);
        value("0^(2^767)", 0);
        value("1^(2^767)", 1);
        value("(-1)^(2^767)", 1);
        value("(-1)^(2^767-1)", -1);
        answer("5^(-1)", 3);
        answer("5^-1", 3);
        answer("0^(-1)", 3);
        answer("1^(-1)", 3);
        answer("(-1)^(-1)", 3);
        answer("5^(-(2^767))", 3);
    }

    private static void gcdIsNeverBelow0() {
        value("G(12,18)", 6);
        value("G(-12,18)", 6);
        value("G(12,-18)", 6);
        value("G(-12,-18)", 6);
        value("G(0,5)", 5);
        value("G(5,0)", 5);
        value("G(0,-5)", 5);
        value("G(-5,0)", 5);
        value("G(-1,-1)", 1);
        value("G(-(2^767),0)", powerOfTwo(767));
        value("G(2^700,-(6^200))", powerOfTwo(200));
    }

    private static void roots() {
        int[] due = {0, 1, 1, 1, 2, 2, 2, 2, 2, 3};
        for (int i = 0; i < due.length; i++) {
            value("R(" + i + ")", due[i]);
        }
        for (int bits : new int[] {16, 31, 32, 33, 64, 200, 383}) {
            BigInteger root = powerOfTwo(bits);
            value("R(2^" + bits + "*2^" + bits + "-1)", root.subtract(BigInteger.ONE));
            value("R(2^" + bits + "*2^" + bits + ")", root);
            value("R(2^" + bits + "*2^" + bits + "+1)", root);
        }
        value("R((2^384-1)*(2^384-1))", powerOfTwo(384).subtract(BigInteger.ONE));
        value("R((2^384-1)*(2^384-1)-1)", powerOfTwo(384).subtract(BigInteger.TWO));
        value("R(2^767+(2^767-1))", powerOfTwo(384).subtract(BigInteger.ONE));
        value("R(-0)", 0);
        answer("R(-1)", 4);
    }

    private static void modularValues() {
        value("M(2,10,1000)", 24);
        value("M(2,10,1024)", 0);
        value("M(2,10,1023)", 1);
        value("M(2,10,1025)", 1024);
        value("M(-2,3,5)", 2);
        value("M(-2,2,5)", 4);
        value("M(-2,1,2)", 0);
        value("M(7,0,5)", 1);
        value("M(7,1,5)", 2);
        value("M(0,0,2)", 1);
        value("M(0,5,2)", 0);
        value("M(3,2^700,2^500+1)", BigInteger.valueOf(3)
                .modPow(powerOfTwo(700), powerOfTwo(500).add(BigInteger.ONE)));
        BigCalculator x = new BigCalculator();
        put(x, 0, GREATEST);
        compileText(x, "M(a-1,a-2,a)");
        due("run of the dearest MODULAR", x.run(10000), 0);
        dueResult("the dearest MODULAR", x, GREATEST.subtract(BigInteger.ONE)
                .modPow(GREATEST.subtract(BigInteger.TWO), GREATEST));
    }

    private static void modularBounds() {
        value("M(5,0,1)", 0);
        value("M(0,0,1)", 0);
        value("M(-7,2147483647,1)", 0);
        answer("M(5,0,0)", 2);
        answer("M(5,0,-1)", 5);
        answer("M(5,-1,1)", 3);
        answer("M(5,-1,7)", 3);
        answer("M(1,-1,7)", 3);
    }

    /** Variable a is 2^768 - 1 here, and b its opposite. */
    private static BigCalculator atTheEdge(String text, int want) {
        BigCalculator x = new BigCalculator();
        put(x, 0, GREATEST);
        put(x, 1, GREATEST.negate());
        due("compile of " + text, compileText(x, text), 0);
        due(text + " of 2^768 - 1 and its opposite", x.run(10000), want);
        return x;
    }

    private static void edgeValue(String text, BigInteger want) {
        dueResult(text + " of 2^768 - 1 and its opposite", atTheEdge(text, 0), want);
    }

    private static void greatestSums() {
        value("2^767+(2^767-1)", GREATEST);
        value("-(2^767)-(2^767-1)", GREATEST.negate());
        answer("2^767+2^767", 6);
        answer("-(2^767)-2^767", 6);
        edgeValue("a+0", GREATEST);
        edgeValue("b-0", GREATEST.negate());
        edgeValue("a+b", BigInteger.ZERO);
        edgeValue("a-a", BigInteger.ZERO);
        edgeValue("a-1", GREATEST.subtract(BigInteger.ONE));
        atTheEdge("a+1", 6);
        atTheEdge("1+a", 6);
        atTheEdge("a--1", 6);
        atTheEdge("b-1", 6);
        atTheEdge("b+-1", 6);
        atTheEdge("a-b", 6);
        atTheEdge("b-a", 6);
        atTheEdge("a+a", 6);
        atTheEdge("a+1-1", 6);
    }

    private static void greatestProducts() {
        value("2^384*(2^384-1)", LIMIT.subtract(powerOfTwo(384)));
        value("-(2^384)*(2^384-1)", powerOfTwo(384).subtract(LIMIT));
        answer("2^384*2^384", 6);
        answer("2^384*-(2^384)", 6);
        answer("2^767*2", 6);
        edgeValue("a*1", GREATEST);
        edgeValue("a*-1", GREATEST.negate());
        edgeValue("a*0", BigInteger.ZERO);
        edgeValue("0*b", BigInteger.ZERO);
        atTheEdge("a*2", 6);
        atTheEdge("-2*a", 6);
        atTheEdge("a*a", 6);
        atTheEdge("a*b", 6);
        atTheEdge("a*2/2", 6);
    }

    private static void greatestPowers() {
        value("2^767", powerOfTwo(767));
        value("(-2)^767", powerOfTwo(767).negate());
        value("3^484", BigInteger.valueOf(3).pow(484));
        value("(2^256-1)^3", powerOfTwo(256).subtract(BigInteger.ONE).pow(3));
        value("(2^384-1)^2", powerOfTwo(384).subtract(BigInteger.ONE).pow(2));
        answer("2^768", 6);
        answer("(-2)^768", 6);
        answer("(-2)^769", 6);
        answer("3^485", 6);
        answer("(2^256)^3", 6);
        answer("(2^384)^2", 6);
        answer("2^2147483647", 6);
        answer("(-2)^2147483647", 6);
        edgeValue("a^0", BigInteger.ONE);
        edgeValue("a^1", GREATEST);
        edgeValue("b^1", GREATEST.negate());
        edgeValue("1^a", BigInteger.ONE);
        edgeValue("0^a", BigInteger.ZERO);
        edgeValue("(-1)^a", BigInteger.ONE.negate());
        atTheEdge("a^2", 6);
        atTheEdge("b^2", 6);
        atTheEdge("2^a", 6);
        atTheEdge("a^a", 6);
    }

    private static void neverTooGreat() {
        edgeValue("a", GREATEST);
        edgeValue("-a", GREATEST.negate());
        edgeValue("-b", GREATEST);
        edgeValue("a/1", GREATEST);
        edgeValue("a/-1", GREATEST.negate());
        edgeValue("b/1", GREATEST.negate());
        edgeValue("b/2", powerOfTwo(767).negate());
        edgeValue("a/a", BigInteger.ONE);
        edgeValue("1%b", BigInteger.TWO.subtract(LIMIT));
        edgeValue("-1%a", LIMIT.subtract(BigInteger.TWO));
        edgeValue("R(a)", powerOfTwo(384).subtract(BigInteger.ONE));
        edgeValue("G(a,b)", GREATEST);
        edgeValue("G(0,b)", GREATEST);
        edgeValue("M(a,a,a)", BigInteger.ZERO);
        edgeValue("M(b-b-1,1,a)", LIMIT.subtract(BigInteger.TWO));
    }

    private static void variablesOfTheirOwn() {
        for (int v = 0; v < 8; v++) {
            BigCalculator x = new BigCalculator();
            x.set(v, 9);
            for (int other = 0; other < 8; other++) {
                compileText(x, name(other));
                x.run(1);
                dueResult("variable " + other + " beside " + v, x, BigInteger.valueOf(other == v ? 9 : 0));
            }
        }
        BigCalculator one = new BigCalculator();
        BigCalculator another = new BigCalculator();
        one.set(0, 3);
        compileText(another, "a");
        another.run(1);
        due("a variable of another object", another.sign(), 0);
    }

    private static void variablesAtFirst() {
        for (int v = 0; v < 8; v++) {
            value(name(v), 0);
            due("0 less variable " + v, done("0").compare(v), 0);
        }
    }

    private static void instructions(String text, int want) {
        due("instructions of " + text, compiled(text).count(1), want);
    }

    private static void instructionForEach() {
        instructions("1", 1);
        instructions("h", 1);
        instructions("(((1)))", 1);
        instructions("1+2", 3);
        instructions("1-2", 3);
        instructions("1*2", 3);
        instructions("a+b-c*d", 7);
        instructions("(a+b)-(c*d)", 7);
        instructions("1" + "+1".repeat(59), 119);
    }

    private static void instructionForMinusAhead() {
        instructions("-1", 2);
        instructions("--1", 3);
        instructions("1--1", 4);
        instructions("-2^-0", 5);
        instructions("-".repeat(119) + "1", 120);
    }

    private static void instructionForFunctions() {
        instructions("1/2", 3);
        instructions("1%2", 3);
        instructions("1^2", 3);
        instructions("G(1,2)", 3);
        instructions("R(1)", 2);
        instructions("M(1,2,3)", 4);
        instructions("M(G(1,2),R(3),4)", 7);
    }

    /** The registers in use after each instruction tell in which order they are done. */
    private static void order(String text, int... used) {
        BigCalculator x = compiled(text);
        due("instructions of " + text, x.count(1), used.length);
        for (int i = 0; i < used.length; i++) {
            due(text + ": run(1)", x.run(1), i + 1 < used.length ? 1 : 0);
            due(text + ": registers after " + (i + 1), x.count(3), used[i]);
        }
    }

    private static void whenAllIsThere() {
        order("(((1)))", 1);
        order("1+2+3", 1, 2, 1, 2, 1);
        order("1+(2+3)", 1, 2, 3, 2, 1);
        order("1+2*3", 1, 2, 3, 2, 1);
        order("1*2+3*4", 1, 2, 1, 2, 3, 2, 1);
        order("-1+2", 1, 1, 2, 1);
        order("-(1+2)", 1, 2, 1, 1);
        order("-2^2*3", 1, 2, 1, 1, 2, 1);
        order("2^3^2", 1, 2, 3, 2, 1);
        order("2^-0*3", 1, 2, 2, 1, 2, 1);
        order("M(1,2,3)+G(4,5)-R(6)", 1, 2, 3, 1, 2, 3, 2, 1, 2, 2, 1);
        order("G(1+2,3)", 1, 2, 1, 2, 1);
    }

    /** The one that fails first tells which one was done first, and a variable when it was read. */
    private static void beforeFirst() {
        answer("1/0+2^-1", 2);
        answer("2^-1+1/0", 3);
        answer("R(-1)+M(1,1,-1)", 4);
        answer("M(1,1,-1)+R(-1)", 5);
        answer("2^768*R(-1)", 6);
        answer("R(-1)*2^768", 4);
        answer("G(1/0,R(-1))", 2);
        answer("M(R(-1),2^-1,0)", 4);
        answer("(1/0)^(2^-1)", 2);
        BigCalculator x = compiled("a-a");
        x.set(0, 5);
        x.run(1);
        x.set(0, 7);
        x.run(2);
        dueResult("the first a is read first", x, BigInteger.valueOf(-2));
    }

    private static void tenRegisters() {
        BigCalculator x = done("1+(".repeat(8) + "1+2" + ")".repeat(8));
        due("the most registers", x.count(4), 10);
        dueResult("the sum of ten", x, BigInteger.valueOf(11));
        place("1+(".repeat(9) + "1+2" + ")".repeat(9), -2);
        BigCalculator y = done("1^1^1^1^1^1^1^1^1^1");
        due("the most registers of ten in powers", y.count(4), 10);
        place("1^1^1^1^1^1^1^1^1^1^1", -2);
        BigCalculator z = done("1^1^1^1^1^1^1^M(1,2,3)");
        due("the most registers with MODULAR", z.count(4), 10);
        place("1^1^1^1^1^1^1^1^M(1,2,3)", -2);
        BigCalculator g = done("1^1^1^1^1^1^1^1^G(1,2)");
        due("the most registers with GCD", g.count(4), 10);
        place("1^1^1^1^1^1^1^1^1^G(1,2)", -2);
        BigCalculator r = done("1^1^1^1^1^1^1^1^1^R(--1)");
        due("the most registers with ROOT and minus", r.count(4), 10);
        place("1^1^1^1^1^1^1^1^1^1^R(1)", -2);
        due("the most registers of a long row", done("1" + "+1".repeat(59)).count(4), 2);
    }

    private static void oneRegisterEach() {
        BigCalculator x = compiled("1+2*3");
        due("at first", x.count(3), 0);
        for (int used : new int[] {1, 2, 3, 2, 1}) {
            x.run(1);
            due("registers in use", x.count(3), used);
        }
        x.run(1);
        due("the result stays in one", x.count(3), 1);
        x.keep(0);
        due("the result that is kept stays in one", x.count(3), 1);
        BigCalculator y = compiled("(1-2)-(3-(4-(5-(6-(7-(8-(9-(10-11))))))))");
        due("run", y.run(10000), 0);
        dueResult("what is in one leaves the others alone", y,
                BigInteger.valueOf((1 - 2) - (3 - (4 - (5 - (6 - (7 - (8 - (9 - (10 - 11))))))))));
    }

    /** All that can be seen without a change. */
    private static String seen(BigCalculator x) {
        StringBuilder text = new StringBuilder();
        for (int what = 0; what <= 7; what++) {
            text.append(x.count(what)).append(' ');
        }
        if (x.count(5) == 1) {
            text.append(resultOf(x));
            for (int v = 0; v < 8; v++) {
                text.append(' ').append(x.compare(v));
            }
        }
        return text.toString();
    }

    private static void allThatThrows(BigCalculator x, String state) {
        boolean code = x.count(1) > 0;
        boolean result = x.count(5) == 1;
        for (int wrongOne : new int[] {-1, 14, Integer.MIN_VALUE}) {
            dueThrow(state + ": feed", () -> x.feed(wrongOne, 0), IAE);
            dueThrow(state + ": feed", () -> x.feed(2, wrongOne), IAE);
            dueThrow(state + ": set", () -> x.set(wrongOne, 77), IAE);
            dueThrow(state + ": keep", () -> x.keep(wrongOne), IAE);
            dueThrow(state + ": compare", () -> x.compare(wrongOne), IAE);
        }
        dueThrow(state + ": run(-1)", () -> x.run(-1), code ? IAE : ISE);
        dueThrow(state + ": run(10001)", () -> x.run(10001), code ? IAE : ISE);
        dueThrow(state + ": limb(24)", () -> x.limb(24), result ? IOOBE : ISE);
        dueThrow(state + ": limb(-1)", () -> x.limb(-1), result ? IOOBE : ISE);
        dueThrow(state + ": digit(-1)", () -> x.digit(-1), result ? IOOBE : ISE);
        if (!code) {
            dueThrow(state + ": run(1)", () -> x.run(1), ISE);
            dueThrow(state + ": restart()", x::restart, ISE);
        }
        if (!result) {
            dueThrow(state + ": keep(0)", () -> x.keep(0), ISE);
            dueThrow(state + ": compare(0)", () -> x.compare(0), ISE);
            dueThrow(state + ": sign()", x::sign, ISE);
            dueThrow(state + ": limb(0)", () -> x.limb(0), ISE);
            dueThrow(state + ": digit(0)", () -> x.digit(0), ISE);
        }
    }

    /** Text is compiled and run by so many instructions, and further tokens wait. */
    private static BigCalculator stateOf(String text, int instructions, String waiting) {
        BigCalculator x = new BigCalculator();
        for (int v = 0; v < 8; v++) {
            x.set(v, 3 * v - 5);
        }
        if (!text.isEmpty() && compileText(x, text) == 0) {
            x.run(instructions);
        }
        feedText(x, waiting);
        return x;
    }

    /** What goes on after the throwing calls must be what goes on without them. */
    private static void unchanged(String state, String text, int instructions, String waiting) {
        BigCalculator thrown = stateOf(text, instructions, waiting);
        BigCalculator left = stateOf(text, instructions, waiting);
        allThatThrows(thrown, state);
        dueText(state, seen(thrown), seen(left));
        if (left.count(1) > 0) {
            due(state + ": run on", thrown.run(10000), left.run(10000));
            dueText(state + ": run on", seen(thrown), seen(left));
        }
        due(state + ": compile", thrown.compile(), left.compile());
        dueText(state + ": compile", seen(thrown), seen(left));
        for (int v = 0; v < 8; v++) {
            compileText(thrown, name(v));
            compileText(left, name(v));
            due(state + ": run of variable " + v, thrown.run(1), left.run(1));
            dueResult(state + ": variable " + v, thrown, resultOf(left));
        }
    }

    private static void throwingChangesNothing() {
        unchanged("new", "", 0, "");
        unchanged("only tokens", "", 0, "1+a");
        unchanged("120 tokens", "", 0, "-".repeat(119) + "5");
        unchanged("no code", "1+", 0, "2");
        unchanged("too many registers", "1^1^1^1^1^1^1^1^1^1^1", 0, "");
        unchanged("not begun", "a*b-c", 0, "");
        unchanged("on the way", "a*b-c", 2, "1+");
        unchanged("a result", "a*b-c", 10, "7");
        unchanged("a great result", "3^484-a", 10, "");
        unchanged("a result of 0", "a-a", 10, "");
        unchanged("a failure", "a/(b-b)", 10, "7*h");
    }
}
