import java.math.BigInteger;
import java.util.ArrayList;
import java.util.List;
import java.util.Random;

/**
 * Long runs of calls, the same ones each time, on the class and on a plain model
 * of the document over BigInteger: every answer and every exception must be the
 * same, and after each call every count. Some runs go on behind an object's
 * 512th call, where the document leaves the answers free: this program has no
 * such end, and what is left over from earlier calls shows there most.
 */
public final class ReferenceTests {
    private static final BigInteger LIMIT = BigInteger.ONE.shiftLeft(768);
    private static int wrong = 0;

    /** What the document says, in its plainest form: a tree by recursion, values by BigInteger. */
    private static final class Model {
        private static final int[] OPERANDS = {0, 0, 2, 2, 2, 2, 2, 2, 0, 0, 0, 2, 1, 3, 1};

        private final List<int[]> tokens = new ArrayList<>();
        private final BigInteger[] variables = new BigInteger[8];
        private List<int[]> code = null;
        private final List<BigInteger> registers = new ArrayList<>();
        private int next;
        private int most;
        private int failure;
        private int at;
        private List<int[]> made;

        Model() {
            java.util.Arrays.fill(variables, BigInteger.ZERO);
        }

        int feed(int kind, int value) {
            boolean right = kind == 0 ? value >= 0 : kind == 1 ? value >= 0 && value <= 7 : value == 0;
            if (kind < 0 || kind > 13 || !right) {
                throw new IllegalArgumentException();
            }
            if (tokens.size() == 120) {
                return -1;
            }
            tokens.add(new int[] {kind, value});
            return tokens.size();
        }

        int compile() {
            made = new ArrayList<>();
            at = 0;
            begin();
            code = null;
            boolean parsed = expression() && at == tokens.size();
            tokens.clear();
            if (!parsed) {
                return at + 1;
            }
            int used = 0;
            int wanted = 0;
            for (int[] instruction : made) {
                used += 1 - OPERANDS[instruction[0]];
                wanted = Math.max(wanted, used);
            }
            if (wanted > 10) {
                return -2;
            }
            code = made;
            return 0;
        }

        private int kind() {
            return at < tokens.size() ? tokens.get(at)[0] : -1;
        }

        private boolean take(int kind) {
            if (kind() != kind) {
                return false;
            }
            at++;
            return true;
        }

        private boolean expression() {
            if (!summand()) {
                return false;
            }
            while (kind() == 2 || kind() == 3) {
                int sign = kind();
                at++;
                if (!summand()) {
                    return false;
                }
                made.add(new int[] {sign, 0});
            }
            return true;
        }

        private boolean summand() {
            if (!factor()) {
                return false;
            }
            while (kind() >= 4 && kind() <= 6) {
                int sign = kind();
                at++;
                if (!factor()) {
                    return false;
                }
                made.add(new int[] {sign, 0});
            }
            return true;
        }

        private boolean factor() {
            if (take(3)) {
                if (!factor()) {
                    return false;
                }
                made.add(new int[] {14, 0});
                return true;
            }
            if (!atom()) {
                return false;
            }
            if (take(7)) {
                if (!factor()) {
                    return false;
                }
                made.add(new int[] {7, 0});
            }
            return true;
        }

        private boolean atom() {
            int kind = kind();
            if (kind == 0 || kind == 1) {
                made.add(tokens.get(at));
                at++;
                return true;
            }
            if (take(8)) {
                return expression() && take(9);
            }
            if (kind < 11) {
                return false;
            }
            at++;
            int parts = kind == 11 ? 2 : kind == 12 ? 1 : 3;
            for (int i = 0; i < parts; i++) {
                if (!take(i == 0 ? 8 : 10) || !expression()) {
                    return false;
                }
            }
            made.add(new int[] {kind, 0});
            return take(9);
        }

        private void begin() {
            registers.clear();
            next = 0;
            most = 0;
            failure = 0;
        }

        void set(int v, long value) {
            lookAt(v);
            variables[v] = BigInteger.valueOf(value);
        }

        void keep(int v) {
            lookAt(v);
            variables[v] = result();
        }

        private static void lookAt(int v) {
            if (v < 0 || v > 7) {
                throw new IllegalArgumentException();
            }
        }

        private boolean hasResult() {
            return code != null && next == code.size();
        }

        private BigInteger result() {
            if (!hasResult()) {
                throw new IllegalStateException();
            }
            return registers.get(0);
        }

        void restart() {
            if (code == null) {
                throw new IllegalStateException();
            }
            begin();
        }

        int run(int n) {
            if (code == null) {
                throw new IllegalStateException();
            }
            if (n < 0 || n > 10000) {
                throw new IllegalArgumentException();
            }
            for (int i = 0; i < n && failure == 0 && next < code.size(); i++) {
                step(code.get(next));
            }
            return failure != 0 ? failure : hasResult() ? 0 : 1;
        }

        private void step(int[] instruction) {
            int from = registers.size() - OPERANDS[instruction[0]];
            List<BigInteger> operands = new ArrayList<>(registers.subList(from, registers.size()));
            failure = refusal(instruction[0], operands);
            if (failure != 0) {
                return;
            }
            BigInteger value = value(instruction, operands);
            if (value == null || value.abs().compareTo(LIMIT) >= 0) {
                failure = 6;
                return;
            }
            registers.subList(from, registers.size()).clear();
            registers.add(value);
            most = Math.max(most, registers.size());
            next++;
        }

        private static int refusal(int kind, List<BigInteger> of) {
            if ((kind == 5 || kind == 6) && of.get(1).signum() == 0 || kind == 13 && of.get(2).signum() == 0) {
                return 2;
            }
            if ((kind == 7 || kind == 13) && of.get(1).signum() < 0) {
                return 3;
            }
            if (kind == 12 && of.get(0).signum() < 0) {
                return 4;
            }
            return kind == 13 && of.get(2).signum() < 0 ? 5 : 0;
        }

        private BigInteger value(int[] instruction, List<BigInteger> of) {
            switch (instruction[0]) {
                case 0: return BigInteger.valueOf(instruction[1]);
                case 1: return variables[instruction[1]];
                case 2: return of.get(0).add(of.get(1));
                case 3: return of.get(0).subtract(of.get(1));
                case 4: return of.get(0).multiply(of.get(1));
                case 5: return floor(of.get(0), of.get(1));
                case 6: return of.get(0).subtract(of.get(1).multiply(floor(of.get(0), of.get(1))));
                case 7: return power(of.get(0), of.get(1));
                case 11: return of.get(0).gcd(of.get(1));
                case 12: return of.get(0).sqrt();
                case 13: return of.get(0).modPow(of.get(1), of.get(2));
                default: return of.get(0).negate();
            }
        }

        private static BigInteger floor(BigInteger a, BigInteger b) {
            BigInteger[] parts = a.divideAndRemainder(b);
            return parts[1].signum() != 0 && parts[1].signum() != b.signum()
                    ? parts[0].subtract(BigInteger.ONE) : parts[0];
        }

        private static BigInteger power(BigInteger a, BigInteger b) {
            if (a.abs().compareTo(BigInteger.ONE) <= 0) {
                return b.signum() == 0 ? BigInteger.ONE : b.testBit(0) ? a : a.abs();
            }
            return b.compareTo(BigInteger.valueOf(768)) >= 0 ? null : a.pow(b.intValueExact());
        }

        int sign() {
            return result().signum();
        }

        long limb(int i) {
            BigInteger magnitude = result().abs();
            if (i < 0 || i > 23) {
                throw new IndexOutOfBoundsException();
            }
            return magnitude.shiftRight(32 * i).longValue() & 0xFFFFFFFFL;
        }

        int digit(int i) {
            String digits = result().abs().toString();
            if (i < 0) {
                throw new IndexOutOfBoundsException();
            }
            return i < digits.length() ? digits.charAt(digits.length() - 1 - i) - '0' : 0;
        }

        int compare(int v) {
            lookAt(v);
            return result().compareTo(variables[v]);
        }

        int count(int what) {
            switch (what) {
                case 0: return tokens.size();
                case 1: return code == null ? 0 : code.size();
                case 2: return next;
                case 3: return registers.size();
                case 4: return most;
                case 5: return hasResult() ? 1 : 0;
                case 6: return hasResult() ? result().abs().bitLength() : -1;
                case 7: return hasResult() ? result().abs().toString().length() : -1;
                default: return -1;
            }
        }
    }

    private interface Call {
        long answer();
    }

    private static final class Pair {
        final BigCalculator program = new BigCalculator();
        final Model model = new Model();
        final StringBuilder told = new StringBuilder();
        final String run;

        Pair(String run) {
            this.run = run;
        }

        private static String outcome(Call call) {
            try {
                return String.valueOf(call.answer());
            } catch (RuntimeException e) {
                return "throws." + e.getClass().getSimpleName();
            }
        }

        private void due(String what, Call got, Call want) {
            String answer = outcome(got);
            String due = outcome(want);
            told.append(what).append(" -> ").append(due).append('\n');
            if (!answer.equals(due)) {
                wrong++;
                if (wrong < 20) {
                    System.out.println(run + ", last call wrong, it answered " + answer + ":\n"
                            + told.substring(Math.max(0, told.length() - 3000)));
                }
            }
        }

        private void dueCounts() {
            for (int what = -1; what <= 8; what++) {
                int w = what;
                if (program.count(w) != model.count(w)) {
                    due("count(" + w + ")", () -> program.count(w), () -> model.count(w));
                }
            }
        }

        void feed(int kind, int value) {
            due("feed(" + kind + ", " + value + ")", () -> program.feed(kind, value), () -> model.feed(kind, value));
        }

        void compile() {
            due("compile()", program::compile, model::compile);
            dueCounts();
        }

        void set(int v, long value) {
            due("set(" + v + ", " + value + ")", () -> { program.set(v, value); return 0; },
                    () -> { model.set(v, value); return 0; });
        }

        void keep(int v) {
            due("keep(" + v + ")", () -> { program.keep(v); return 0; }, () -> { model.keep(v); return 0; });
            dueCounts();
        }

        void restart() {
            due("restart()", () -> { program.restart(); return 0; }, () -> { model.restart(); return 0; });
            dueCounts();
        }

        void run(int n) {
            due("run(" + n + ")", () -> program.run(n), () -> model.run(n));
            dueCounts();
        }

        void sign() {
            due("sign()", program::sign, model::sign);
        }

        void limb(int i) {
            due("limb(" + i + ")", () -> program.limb(i), () -> model.limb(i));
        }

        void digit(int i) {
            due("digit(" + i + ")", () -> program.digit(i), () -> model.digit(i));
        }

        void compare(int v) {
            due("compare(" + v + ")", () -> program.compare(v), () -> model.compare(v));
        }

        void wholeResult() {
            sign();
            for (int i = 0; i < 24; i++) {
                limb(i);
            }
        }
    }

    private static final class Writer {
        private final Random random;
        private final List<int[]> tokens = new ArrayList<>();

        Writer(Random random) {
            this.random = random;
        }

        private void add(int kind) {
            tokens.add(new int[] {kind, 0});
        }

        private void number() {
            int[] usual = {0, 1, 2, 3, 5, 7, 10, 16, 31, 32, 64, 100, 255, 383, 384, 767, 768, 65536, Integer.MAX_VALUE};
            int value = random.nextInt(4) == 0 ? random.nextInt() >>> 1 : usual[random.nextInt(usual.length)];
            tokens.add(new int[] {0, value});
        }

        void expression(int budget) {
            if (budget <= 1) {
                leaf();
                return;
            }
            int pick = random.nextInt(20);
            if (pick < 9) {
                int left = 1 + random.nextInt(budget);
                expression(left - 1);
                add(2 + random.nextInt(5));
                expression(budget - left);
            } else if (pick < 12) {
                bracketed(budget / 2);
                add(7);
                bracketed(random.nextInt(3) == 0 ? budget / 2 : 0);
            } else if (pick < 14) {
                add(3);
                bracketed(budget - 1);
            } else if (pick < 16) {
                add(8);
                expression(budget - 2);
                add(9);
            } else {
                function(11 + random.nextInt(3), budget);
            }
        }

        private void function(int kind, int budget) {
            int parts = kind == 11 ? 2 : kind == 12 ? 1 : 3;
            add(kind);
            add(8);
            for (int i = 0; i < parts; i++) {
                if (i > 0) {
                    add(10);
                }
                expression((budget - 2) / parts - 1);
            }
            add(9);
        }

        private void bracketed(int budget) {
            if (budget <= 3 || random.nextInt(3) == 0) {
                leaf();
                return;
            }
            add(8);
            expression(budget - 2);
            add(9);
        }

        private void leaf() {
            if (random.nextInt(2) == 0) {
                number();
            } else {
                tokens.add(new int[] {1, random.nextInt(8)});
            }
        }

        void spoil() {
            int changes = 1 + random.nextInt(2);
            for (int i = 0; i < changes && !tokens.isEmpty(); i++) {
                int at = random.nextInt(tokens.size());
                int kind = random.nextInt(14);
                switch (random.nextInt(4)) {
                    case 0: tokens.remove(at); break;
                    case 1: tokens.set(at, new int[] {kind, 0}); break;
                    case 2: tokens.add(at, new int[] {kind, 0}); break;
                    default: tokens.subList(at, tokens.size()).clear(); break;
                }
            }
        }

        void feedTo(Pair pair) {
            for (int[] token : tokens) {
                pair.feed(token[0], token[1]);
            }
        }
    }

    private static long someLong(Random random) {
        switch (random.nextInt(5)) {
            case 0: return random.nextInt(7) - 3;
            case 1: return random.nextBoolean() ? Long.MIN_VALUE : Long.MAX_VALUE;
            case 2: return (1L << random.nextInt(64)) - random.nextInt(2);
            default: return random.nextLong() >> random.nextInt(64);
        }
    }

    private static void anyCall(Pair pair, Random random) {
        int v = random.nextInt(12) == 0 ? random.nextInt(40) - 20 : random.nextInt(8);
        switch (random.nextInt(14)) {
            case 0: pair.set(v, someLong(random)); break;
            case 1: case 2: pair.keep(v); break;
            case 3: pair.restart(); break;
            case 4: pair.run(random.nextInt(4)); break;
            case 5: pair.run(random.nextInt(3) - 1 + (random.nextBoolean() ? 10000 : 0)); break;
            case 6: pair.sign(); break;
            case 7: pair.limb(random.nextInt(28) - 2); break;
            case 8: pair.digit(random.nextInt(260) - 2); break;
            case 9: pair.compare(v); break;
            case 10: pair.feed(random.nextInt(18) - 2, random.nextInt(3) == 0 ? random.nextInt(12) - 2 : 0); break;
            case 11: pair.compile(); break;
            default: pair.run(random.nextInt(60)); break;
        }
    }

    private static void mixedRun(int seed) {
        Random random = new Random(seed);
        Pair pair = new Pair("mixed run " + seed);
        for (int round = 0; round < 12; round++) {
            Writer writer = new Writer(random);
            writer.expression(1 + random.nextInt(random.nextInt(6) == 0 ? 110 : 24));
            if (random.nextInt(5) == 0) {
                writer.spoil();
            }
            writer.feedTo(pair);
            pair.compile();
            if (random.nextInt(3) != 0) {
                pair.run(random.nextInt(100));
            }
            for (int i = 0; i < 12; i++) {
                anyCall(pair, random);
            }
        }
    }

    private static void expressionRun(int seed) {
        Random random = new Random(seed);
        Pair pair = new Pair("expression run " + seed);
        for (int v = 0; v < 8; v++) {
            pair.set(v, someLong(random));
        }
        for (int round = 0; round < 10; round++) {
            Writer writer = new Writer(random);
            writer.expression(1 + random.nextInt(20));
            writer.feedTo(pair);
            pair.compile();
            pair.run(10000);
            if (pair.model.hasResult()) {
                pair.wholeResult();
                pair.keep(random.nextInt(8));
            }
        }
    }

    /** Limbs of all ones and all zeros are those at which a division's estimates are wrong. */
    private static BigInteger edgy(Random random, int mostLimbs) {
        long[] usual = {0, 0, 1, 0x7FFFFFFFL, 0x80000000L, 0x80000001L, 0xFFFFFFFEL, 0xFFFFFFFFL, 0xFFFFFFFFL};
        BigInteger number = BigInteger.ZERO;
        int limbs = 1 + random.nextInt(mostLimbs);
        for (int i = 0; i < limbs; i++) {
            long limb = random.nextInt(8) == 0 ? random.nextLong() & 0xFFFFFFFFL : usual[random.nextInt(usual.length)];
            number = number.shiftLeft(32).add(BigInteger.valueOf(limb));
        }
        if (random.nextInt(4) == 0) {
            number = number.shiftRight(random.nextInt(32));
        }
        return random.nextInt(3) == 0 ? number.negate() : number;
    }

    private static void feedRow(Pair pair, int... row) {
        for (int i = 0; i < row.length; i += 2) {
            pair.feed(row[i], row[i + 1]);
        }
    }

    /** Variable v becomes a number of up to 768 bits, with variable 7 in between. */
    private static void put(Pair pair, int v, BigInteger number) {
        pair.set(v, 0);
        for (int at = 744; at >= 0; at -= 62) {
            if (number.abs().shiftRight(at).signum() == 0) {
                continue;
            }
            long part = number.abs().shiftRight(at).mod(BigInteger.ONE.shiftLeft(62)).longValueExact();
            pair.set(7, number.signum() < 0 ? -part : part);
            feedRow(pair, 1, v, 4, 0, 0, 2, 7, 0, 0, 62, 2, 0, 1, 7);
            pair.compile();
            pair.run(10);
            pair.keep(v);
        }
        if (!pair.model.variables[v].equals(number)) {
            wrong++;
            System.out.println("the test itself is wrong: " + number + " was not put");
        }
    }

    private static void apply(Pair pair, int... row) {
        feedRow(pair, row);
        pair.compile();
        pair.run(10000);
        if (pair.model.hasResult()) {
            pair.wholeResult();
            pair.compare(0);
        }
    }

    private static void greatNumbersRun(int seed) {
        Random random = new Random(seed);
        Pair pair = new Pair("great numbers run " + seed);
        put(pair, 0, edgy(random, 24));
        put(pair, 1, edgy(random, random.nextBoolean() ? 24 : 4));
        for (int kind = 2; kind <= 6; kind++) {
            apply(pair, 1, 0, kind, 0, 1, 1);
        }
        apply(pair, 11, 0, 8, 0, 1, 0, 10, 0, 1, 1, 9, 0);
        apply(pair, 12, 0, 8, 0, 1, 0, 9, 0);
        apply(pair, 3, 0, 1, 0, 6, 0, 8, 0, 3, 0, 1, 1, 9, 0);
    }

    private static void modularRun(int seed) {
        Random random = new Random(seed);
        Pair pair = new Pair("modular run " + seed);
        put(pair, 0, edgy(random, 24));
        put(pair, 1, edgy(random, seed % 10 == 0 ? 24 : 2).abs());
        put(pair, 2, edgy(random, 24).abs());
        apply(pair, 13, 0, 8, 0, 1, 0, 10, 0, 1, 1, 10, 0, 1, 2, 9, 0);
    }

    /** Squares, and the numbers just below and above them. */
    private static void rootRun(int seed) {
        Random random = new Random(seed);
        Pair pair = new Pair("root run " + seed);
        put(pair, 0, edgy(random, 12).abs());
        for (int delta = -1; delta <= 1; delta++) {
            pair.set(1, delta);
            apply(pair, 12, 0, 8, 0, 1, 0, 4, 0, 1, 0, 2, 0, 1, 1, 9, 0);
        }
        put(pair, 2, LIMIT.subtract(BigInteger.ONE).subtract(BigInteger.valueOf(random.nextInt(5))));
        apply(pair, 12, 0, 8, 0, 1, 2, 9, 0);
    }

    /** Neighbours among Fibonacci's numbers take the most steps. */
    private static void fibonacciRun() {
        BigInteger less = BigInteger.ONE;
        BigInteger greater = BigInteger.TWO;
        while (less.add(greater).compareTo(LIMIT) < 0) {
            BigInteger sum = less.add(greater);
            less = greater;
            greater = sum;
        }
        Pair pair = new Pair("fibonacci run");
        put(pair, 0, less);
        put(pair, 1, greater);
        apply(pair, 11, 0, 8, 0, 1, 0, 10, 0, 1, 1, 9, 0);
        apply(pair, 11, 0, 8, 0, 1, 1, 10, 0, 3, 0, 1, 0, 9, 0);
    }

    /** Every row of up to five tokens of the fourteen kinds. */
    private static void everyShortRow() {
        BigCalculator program = new BigCalculator();
        Model model = new Model();
        for (int size = 0, rows = 1; size <= 5; size++, rows *= 14) {
            for (int row = 0; row < rows; row++) {
                StringBuilder told = new StringBuilder();
                for (int i = 0, left = row; i < size; i++, left /= 14) {
                    program.feed(left % 14, 0);
                    model.feed(left % 14, 0);
                    told.append(' ').append(left % 14);
                }
                int answer = program.compile();
                int due = model.compile();
                if (answer != due || program.count(1) != model.count(1)) {
                    wrong++;
                    System.out.println("kinds" + told + ": compile() answered " + answer + ", due is " + due);
                }
            }
        }
    }

    public static void main(String[] args) {
        everyShortRow();
        fibonacciRun();
        for (int seed = 0; seed < 3000; seed++) {
            mixedRun(seed);
            expressionRun(seed);
        }
        for (int seed = 0; seed < 1500; seed++) {
            greatNumbersRun(seed);
            rootRun(seed);
        }
        for (int seed = 0; seed < 200; seed++) {
            modularRun(seed);
        }
        System.out.println(wrong == 0 ? "all answers are as due" : wrong + " answers are not as due");
        if (wrong != 0) {
            System.exit(1);
        }
    }
}
