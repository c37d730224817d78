/**
 * A calculator for whole numbers of any sign: tokens are made into code for a
 * machine with registers, which runs it some instructions at a time.
 *
 * Every row and number is made with the object and written again and again, so
 * that no later call makes anything but the exception that it throws.
 */
public final class BigCalculator {
    public static final int NONE = -1;

    private static final int NUMBER = 0;
    private static final int VARIABLE = 1;
    private static final int PLUS = 2;
    private static final int MINUS = 3;
    private static final int TIMES = 4;
    private static final int DIVIDE = 5;
    private static final int REST = 6;
    private static final int POWER = 7;
    private static final int OPEN = 8;
    private static final int CLOSE = 9;
    private static final int COMMA = 10;
    private static final int GCD = 11;
    private static final int ROOT = 12;
    private static final int MODULAR = 13;
    /** No token, but an instruction: the minus ahead of a factor. */
    private static final int NEGATE = 14;

    /** How many registers an instruction takes its operands from, by its kind. */
    private static final int[] OPERANDS = {0, 0, 2, 2, 2, 2, 2, 2, 0, 0, 0, 2, 1, 3, 1};
    /** How tightly a sign binds, by its kind; 0 for all that a sign behind it can't end. */
    private static final int[] BINDING = {0, 0, 1, 1, 2, 2, 2, 4, 0, 0, 0, 0, 0, 0, 3};
    /** How many commas stand between the brackets that belong to a kind. */
    private static final int[] COMMAS = {0, 0, 0, 0, 0, 0, 0, 0, 0, 0, 0, 1, 0, 2, 0};

    private static final int DONE = 0;
    private static final int NOT_YET = 1;
    private static final int DIVISOR_IS_ZERO = 2;
    private static final int EXPONENT_BELOW_ZERO = 3;
    private static final int ROOT_OF_ONE_BELOW_ZERO = 4;
    private static final int MODULUS_BELOW_ZERO = 5;
    private static final int TOO_GREAT = 6;

    private static final int TOO_MANY_REGISTERS = -2;
    private static final int MOST_TOKENS = 120;
    private static final int MOST_INSTRUCTIONS_A_CALL = 10000;
    private static final int REGISTERS = 10;
    private static final int VARIABLES = 8;
    /** A value below 2^768 has at most so many limbs of 32 bits, and a greater one has more. */
    private static final int LIMBS = 24;
    /** Holds the product of two values and the limb more that a division shifts into. */
    private static final int ROOM_IN_LIMBS = 2 * LIMBS + 2;
    private static final int LIMB_BITS = 32;
    private static final long LOW_BITS = 0xFFFFFFFFL;
    private static final long BILLION = 1000000000L;
    private static final int DIGITS_OF_A_BILLION = 9;
    /** 2^768 - 1 has 232 decimal digits. */
    private static final int MOST_DIGITS = 232;
    /** Newton's steps double the right bits, so that some ten are enough for 768 bits. */
    private static final int MOST_ROOT_STEPS = 1000;
    /** Euclid's steps are most for neighbours among Fibonacci's numbers: 1107 for 768 bits. */
    private static final int MOST_GCD_STEPS = 2000;

    private final TokenRow tokens;
    private final Translator translator;
    private final Machine machine;
    private final Decimal decimal;

    public BigCalculator() {
        tokens = new TokenRow();
        translator = new Translator();
        machine = new Machine();
        decimal = new Decimal();
    }

    public int feed(int kind, int value) throws IllegalArgumentException {
        if (!isToken(kind, value)) {
            throw new IllegalArgumentException("no such token");
        }
        if (tokens.size == MOST_TOKENS) {
            return NONE;
        }
        tokens.append(kind, value);
        return tokens.size;
    }

    public int compile() {
        int answer = translator.translate(tokens);
        if (answer == 0 && translator.code.registersWanted() > REGISTERS) {
            answer = TOO_MANY_REGISTERS;
        }
        if (answer != 0) {
            translator.code.size = 0;
        }
        tokens.size = 0;
        machine.begin();
        return answer;
    }

    public void set(int v, long value) throws IllegalArgumentException {
        variable(v).becomeLong(value);
    }

    public void keep(int v) throws IllegalArgumentException, IllegalStateException {
        Whole kept = variable(v);
        kept.become(result());
    }

    public void restart() throws IllegalStateException {
        requireCode();
        machine.begin();
    }

    public int run(int n) throws IllegalStateException, IllegalArgumentException {
        requireCode();
        if (n < 0 || n > MOST_INSTRUCTIONS_A_CALL) {
            throw new IllegalArgumentException("not 0 .. 10000 instructions");
        }
        return machine.advance(translator.code, n);
    }

    public int sign() throws IllegalStateException {
        return result().signum();
    }

    public long limb(int i) throws IllegalStateException, IndexOutOfBoundsException {
        Natural magnitude = result().magnitude;
        if (i < 0 || i >= LIMBS) {
            throw new IndexOutOfBoundsException("not limb 0 .. 23");
        }
        return magnitude.limbAt(i);
    }

    public int digit(int i) throws IllegalStateException, IndexOutOfBoundsException {
        Natural magnitude = result().magnitude;
        if (i < 0) {
            throw new IndexOutOfBoundsException("a digit below 0");
        }
        return decimal.digitAt(magnitude, i);
    }

    public int compare(int v) throws IllegalArgumentException, IllegalStateException {
        Whole other = variable(v);
        return result().order(other);
    }

    public int count(int what) {
        switch (what) {
            case 0:
                return tokens.size;
            case 1:
                return translator.code.size;
            case 2:
                return machine.next;
            case 3:
                return machine.used;
            case 4:
                return machine.most;
            case 5:
                return hasResult() ? 1 : 0;
            case 6:
                return hasResult() ? machine.registers[0].magnitude.bits() : NONE;
            case 7:
                return hasResult() ? decimal.length(machine.registers[0].magnitude) : NONE;
            default:
                return NONE;
        }
    }

    private static boolean isToken(int kind, int value) {
        if (kind < NUMBER || kind > MODULAR) {
            return false;
        }
        if (kind == NUMBER) {
            return value >= 0;
        }
        if (kind == VARIABLE) {
            return value >= 0 && value < VARIABLES;
        }
        return value == 0;
    }

    private Whole variable(int v) {
        if (v < 0 || v >= VARIABLES) {
            throw new IllegalArgumentException("not variable 0 .. 7");
        }
        return machine.variables[v];
    }

    private boolean hasResult() {
        return translator.code.size > 0 && machine.next == translator.code.size;
    }

    private Whole result() {
        if (!hasResult()) {
            throw new IllegalStateException("no result");
        }
        return machine.registers[0];
    }

    private void requireCode() {
        if (translator.code.size == 0) {
            throw new IllegalStateException("no code");
        }
    }

    /** The tokens that wait. */
    private static final class TokenRow {
        final int[] kinds;
        final int[] values;
        int size;

        TokenRow() {
            kinds = new int[MOST_TOKENS];
            values = new int[MOST_TOKENS];
            size = 0;
        }

        void append(int kind, int value) {
            if (size < MOST_TOKENS) {
                kinds[size] = kind;
                values[size] = value;
                size++;
            }
        }
    }

    /** Instructions in the order in which they are done; none means that there is no code. */
    private static final class Code {
        final int[] operations;
        final int[] operands;
        int size;

        Code() {
            operations = new int[MOST_TOKENS];
            operands = new int[MOST_TOKENS];
            size = 0;
        }

        void append(int operation, int operand) {
            // No token makes more than one instruction, so the row is never short.
            if (size < MOST_TOKENS) {
                operations[size] = operation;
                operands[size] = operand;
                size++;
            }
        }

        int registersWanted() {
            int used = 0;
            int most = 0;
            for (int i = 0; i < size; i++) {
                used = used - OPERANDS[operations[i]] + 1;
                most = Math.max(most, used);
            }
            return most;
        }
    }

    /**
     * Makes tokens into code. Signs and brackets wait in a row of their own until
     * all that they need is there; a row and not recursion, as 120 brackets deep
     * would be too many calls.
     */
    private static final class Translator {
        private static final int OPERAND = 0;
        private static final int OPERATOR = 1;
        private static final int BRACKET = 2;

        final Code code;
        private final int[] waiting;
        private final int[] commasDue;
        private int depth;
        /** What the next token must be: OPERAND, OPERATOR or, behind a name, BRACKET. */
        private int expected;

        Translator() {
            code = new Code();
            waiting = new int[MOST_TOKENS];
            commasDue = new int[MOST_TOKENS];
            depth = 0;
            expected = OPERAND;
        }

        /** 0, or 1 + the number of the first token that can't stand where it does. */
        int translate(TokenRow tokens) {
            code.size = 0;
            depth = 0;
            expected = OPERAND;
            for (int i = 0; i < tokens.size; i++) {
                if (!accept(tokens.kinds[i], tokens.values[i])) {
                    return i + 1;
                }
            }
            if (expected != OPERATOR) {
                return tokens.size + 1;
            }
            release(1);
            return depth == 0 ? 0 : tokens.size + 1;
        }

        private boolean accept(int kind, int value) {
            switch (expected) {
                case OPERAND:
                    return acceptOperand(kind, value);
                case OPERATOR:
                    return acceptOperator(kind);
                default:
                    expected = OPERAND;
                    return kind == OPEN;
            }
        }

        private boolean acceptOperand(int kind, int value) {
            switch (kind) {
                case NUMBER:
                case VARIABLE:
                    code.append(kind, value);
                    expected = OPERATOR;
                    return true;
                case MINUS:
                    push(NEGATE);
                    return true;
                case OPEN:
                    push(OPEN);
                    return true;
                case GCD:
                case ROOT:
                case MODULAR:
                    push(kind);
                    expected = BRACKET;
                    return true;
                default:
                    return false;
            }
        }

        private boolean acceptOperator(int kind) {
            switch (kind) {
                case PLUS:
                case MINUS:
                case TIMES:
                case DIVIDE:
                case REST:
                    release(BINDING[kind]);
                    push(kind);
                    expected = OPERAND;
                    return true;
                case POWER:
                    // Nothing is released: what waits takes the whole power.
                    push(kind);
                    expected = OPERAND;
                    return true;
                case COMMA:
                    return acceptComma();
                case CLOSE:
                    return acceptClose();
                default:
                    return false;
            }
        }

        private boolean acceptComma() {
            release(1);
            if (depth == 0 || commasDue[depth - 1] == 0) {
                return false;
            }
            commasDue[depth - 1]--;
            expected = OPERAND;
            return true;
        }

        private boolean acceptClose() {
            release(1);
            if (depth == 0 || commasDue[depth - 1] != 0) {
                return false;
            }
            depth--;
            if (waiting[depth] != OPEN) {
                code.append(waiting[depth], 0);
            }
            return true;
        }

        private void push(int kind) {
            // No token waits twice, so the row is never short.
            if (depth < MOST_TOKENS) {
                waiting[depth] = kind;
                commasDue[depth] = COMMAS[kind];
                depth++;
            }
        }

        /** The signs on top that bind at least so tightly become instructions; brackets bind by 0. */
        private void release(int binding) {
            while (depth > 0 && BINDING[waiting[depth - 1]] >= binding) {
                depth--;
                code.append(waiting[depth], 0);
            }
        }
    }

    /** Runs code; the registers in use are the first ones, as what is made last is used first. */
    private static final class Machine {
        final Whole[] registers;
        final Whole[] variables;
        int next;
        int used;
        int most;
        private int failure;
        private final Arithmetic arithmetic;

        Machine() {
            registers = new Whole[REGISTERS];
            for (int i = 0; i < REGISTERS; i++) {
                registers[i] = new Whole();
            }
            variables = new Whole[VARIABLES];
            for (int i = 0; i < VARIABLES; i++) {
                variables[i] = new Whole();
            }
            next = 0;
            used = 0;
            most = 0;
            failure = DONE;
            arithmetic = new Arithmetic();
        }

        void begin() {
            next = 0;
            used = 0;
            most = 0;
            failure = DONE;
        }

        int advance(Code code, int n) {
            for (int i = 0; i < n && next < code.size && failure == DONE; i++) {
                int operation = code.operations[next];
                int lowest = used - OPERANDS[operation];
                failure = perform(operation, code.operands[next], lowest);
                if (failure == DONE) {
                    next++;
                    used = lowest + 1;
                    most = Math.max(most, used);
                }
            }
            if (failure != DONE) {
                return failure;
            }
            return next == code.size ? DONE : NOT_YET;
        }

        /** The operands are in the registers from the lowest on, and the outcome goes to that one. */
        private int perform(int operation, int operand, int lowest) {
            Whole first = registers[lowest];
            switch (operation) {
                case NUMBER:
                    first.becomeLong(operand);
                    return DONE;
                case VARIABLE:
                    first.become(variables[operand]);
                    return DONE;
                case NEGATE:
                    first.negate();
                    return DONE;
                case PLUS:
                    return arithmetic.add(first, registers[lowest + 1]);
                case MINUS:
                    return arithmetic.subtract(first, registers[lowest + 1]);
                case TIMES:
                    return arithmetic.multiply(first, registers[lowest + 1]);
                case DIVIDE:
                    return arithmetic.divideForQuotient(first, registers[lowest + 1]);
                case REST:
                    return arithmetic.divideForRest(first, registers[lowest + 1]);
                case POWER:
                    return arithmetic.raise(first, registers[lowest + 1]);
                case GCD:
                    return arithmetic.gcd(first, registers[lowest + 1]);
                case ROOT:
                    return arithmetic.root(first);
                default:
                    return arithmetic.modular(first, registers[lowest + 1], registers[lowest + 2]);
            }
        }
    }

    /**
     * The arithmetic of the instructions: each method puts its outcome into its
     * first operand and answers DONE, or leaves that alone and answers why not.
     */
    private static final class Arithmetic {
        private final Divider divider;
        private final Natural one;
        private final Natural outcome;
        private final Natural product;
        private final Natural base;

        Arithmetic() {
            divider = new Divider();
            one = new Natural();
            one.becomeLong(1);
            outcome = new Natural();
            product = new Natural();
            base = new Natural();
        }

        int add(Whole a, Whole b) {
            return addSigned(a, b.magnitude, b.negative);
        }

        int subtract(Whole a, Whole b) {
            return addSigned(a, b.magnitude, !b.negative);
        }

        private int addSigned(Whole a, Natural b, boolean bNegative) {
            boolean negative = a.negative;
            if (a.negative == bNegative) {
                outcome.becomeSum(a.magnitude, b);
            } else if (a.magnitude.order(b) >= 0) {
                outcome.becomeDifference(a.magnitude, b);
            } else {
                outcome.becomeDifference(b, a.magnitude);
                negative = bNegative;
            }
            return store(outcome, negative, a);
        }

        int multiply(Whole a, Whole b) {
            product.becomeProduct(a.magnitude, b.magnitude);
            return store(product, a.negative != b.negative, a);
        }

        int divideForQuotient(Whole a, Whole b) {
            if (b.magnitude.isZero()) {
                return DIVISOR_IS_ZERO;
            }
            divider.divide(a.magnitude, b.magnitude);
            boolean negative = a.negative != b.negative;
            if (negative && !divider.rest.isZero()) {
                outcome.becomeSum(divider.quotient, one);
            } else {
                outcome.become(divider.quotient);
            }
            return store(outcome, negative, a);
        }

        int divideForRest(Whole a, Whole b) {
            if (b.magnitude.isZero()) {
                return DIVISOR_IS_ZERO;
            }
            floorRest(a, b, outcome);
            return store(outcome, b.negative, a);
        }

        int raise(Whole a, Whole b) {
            if (b.negative) {
                return EXPONENT_BELOW_ZERO;
            }
            outcome.becomeLong(1);
            // A power on the way is never greater than the last one, but for 0 and 1, which stay small.
            for (int i = b.magnitude.bits() - 1; i >= 0; i--) {
                product.becomeProduct(outcome, outcome);
                if (product.isTooGreat()) {
                    return TOO_GREAT;
                }
                if (b.magnitude.bitAt(i)) {
                    outcome.becomeProduct(product, a.magnitude);
                } else {
                    outcome.become(product);
                }
                if (outcome.isTooGreat()) {
                    return TOO_GREAT;
                }
            }
            return store(outcome, a.negative && b.magnitude.bitAt(0), a);
        }

        int gcd(Whole a, Whole b) {
            Natural greater = outcome;
            Natural less = base;
            greater.become(a.magnitude);
            less.become(b.magnitude);
            for (int i = 0; i < MOST_GCD_STEPS && !less.isZero(); i++) {
                divider.divide(greater, less);
                greater.become(divider.rest);
                Natural swapped = greater;
                greater = less;
                less = swapped;
            }
            return store(greater, false, a);
        }

        int root(Whole a) {
            if (a.negative) {
                return ROOT_OF_ONE_BELOW_ZERO;
            }
            if (a.magnitude.isZero()) {
                return DONE;
            }
            // From above Newton's steps fall till they reach the root, and not below it.
            outcome.becomePowerOfTwo((a.magnitude.bits() + 1) / 2);
            for (int i = 0; i < MOST_ROOT_STEPS; i++) {
                divider.divide(a.magnitude, outcome);
                base.becomeSum(outcome, divider.quotient);
                base.shiftRight(1);
                if (base.order(outcome) >= 0) {
                    break;
                }
                outcome.become(base);
            }
            return store(outcome, false, a);
        }

        int modular(Whole a, Whole b, Whole m) {
            if (m.magnitude.isZero()) {
                return DIVISOR_IS_ZERO;
            }
            if (b.negative) {
                return EXPONENT_BELOW_ZERO;
            }
            if (m.negative) {
                return MODULUS_BELOW_ZERO;
            }
            floorRest(a, m, base);
            divider.divide(one, m.magnitude);
            outcome.become(divider.rest);
            for (int i = b.magnitude.bits() - 1; i >= 0; i--) {
                multiplyOutcome(outcome, m.magnitude);
                if (b.magnitude.bitAt(i)) {
                    multiplyOutcome(base, m.magnitude);
                }
            }
            return store(outcome, false, a);
        }

        private void multiplyOutcome(Natural factor, Natural modulus) {
            product.becomeProduct(outcome, factor);
            divider.divide(product, modulus);
            outcome.become(divider.rest);
        }

        /** The magnitude of a REST b, whose sign is that of b. */
        private void floorRest(Whole a, Whole b, Natural target) {
            divider.divide(a.magnitude, b.magnitude);
            if (a.negative != b.negative && !divider.rest.isZero()) {
                target.becomeDifference(b.magnitude, divider.rest);
            } else {
                target.become(divider.rest);
            }
        }

        private static int store(Natural magnitude, boolean negative, Whole target) {
            if (magnitude.isTooGreat()) {
                return TOO_GREAT;
            }
            target.magnitude.become(magnitude);
            target.negative = negative && !magnitude.isZero();
            return DONE;
        }
    }

    /** A number of any sign; 0 is never negative. */
    private static final class Whole {
        final Natural magnitude;
        boolean negative;

        Whole() {
            magnitude = new Natural();
            negative = false;
        }

        void become(Whole other) {
            magnitude.become(other.magnitude);
            negative = other.negative;
        }

        void becomeLong(long value) {
            // The least long stays as it is when negated, and is 2^63 when read without a sign.
            magnitude.becomeLong(value < 0 ? -value : value);
            negative = value < 0;
        }

        void negate() {
            negative = !negative && !magnitude.isZero();
        }

        int signum() {
            if (magnitude.isZero()) {
                return 0;
            }
            return negative ? -1 : 1;
        }

        int order(Whole other) {
            if (negative != other.negative) {
                return negative ? -1 : 1;
            }
            int byMagnitude = magnitude.order(other.magnitude);
            return negative ? -byMagnitude : byMagnitude;
        }
    }

    /**
     * A number not below 0, as limbs of 32 bits, the lowest first. Only the first
     * size limbs count, and the last one of these is not 0.
     */
    private static final class Natural {
        final long[] limbs;
        int size;

        Natural() {
            limbs = new long[ROOM_IN_LIMBS];
            size = 0;
        }

        boolean isZero() {
            return size == 0;
        }

        boolean isTooGreat() {
            return size > LIMBS;
        }

        int bits() {
            if (size == 0) {
                return 0;
            }
            return LIMB_BITS * size - freeBits();
        }

        /** How many bits of the highest limb stand unused above its highest one; 0 for 0. */
        int freeBits() {
            return size == 0 ? 0 : Long.numberOfLeadingZeros(limbs[size - 1]) - LIMB_BITS;
        }

        boolean bitAt(int i) {
            return ((limbAt(i / LIMB_BITS) >>> (i % LIMB_BITS)) & 1) != 0;
        }

        long limbAt(int i) {
            return i >= 0 && i < size ? limbs[i] : 0;
        }

        int order(Natural other) {
            if (size != other.size) {
                return size < other.size ? -1 : 1;
            }
            for (int i = size - 1; i >= 0; i--) {
                if (limbs[i] != other.limbs[i]) {
                    return limbs[i] < other.limbs[i] ? -1 : 1;
                }
            }
            return 0;
        }

        void become(Natural other) {
            System.arraycopy(other.limbs, 0, limbs, 0, other.size);
            size = other.size;
        }

        /** The bits are read without a sign. */
        void becomeLong(long bits) {
            limbs[0] = bits & LOW_BITS;
            limbs[1] = bits >>> LIMB_BITS;
            trim(2);
        }

        void becomePowerOfTwo(int exponent) {
            int highest = exponent / LIMB_BITS;
            clear(highest);
            limbs[highest] = 1L << (exponent % LIMB_BITS);
            size = highest + 1;
        }

        void becomeSum(Natural a, Natural b) {
            int length = Math.max(a.size, b.size);
            long carry = 0;
            for (int i = 0; i < length; i++) {
                long sum = a.limbAt(i) + b.limbAt(i) + carry;
                limbs[i] = sum & LOW_BITS;
                carry = sum >>> LIMB_BITS;
            }
            limbs[length] = carry;
            trim(length + 1);
        }

        /** a is not less than b. */
        void becomeDifference(Natural a, Natural b) {
            int length = a.size;
            long borrow = 0;
            for (int i = 0; i < length; i++) {
                long difference = a.limbs[i] - b.limbAt(i) - borrow;
                limbs[i] = difference & LOW_BITS;
                borrow = difference < 0 ? 1 : 0;
            }
            trim(length);
        }

        /** Neither factor is this number itself, and each has at most LIMBS limbs. */
        void becomeProduct(Natural a, Natural b) {
            int length = b.size;
            clear(length);
            for (int i = 0; i < a.size; i++) {
                long factor = a.limbs[i];
                long carry = 0;
                for (int j = 0; j < length; j++) {
                    // At most 2^64 - 1, so that nothing is lost without a sign.
                    long sum = factor * b.limbs[j] + limbs[i + j] + carry;
                    limbs[i + j] = sum & LOW_BITS;
                    carry = sum >>> LIMB_BITS;
                }
                limbs[i + length] = carry;
            }
            trim(a.size + length);
        }

        /** Takes one limb more than the other number, even where that one is 0; shift is 0 .. 31. */
        void becomeShiftedLeft(Natural other, int shift) {
            int length = other.size;
            long carry = 0;
            for (int i = 0; i < length; i++) {
                long shifted = (other.limbs[i] << shift) | carry;
                limbs[i] = shifted & LOW_BITS;
                carry = shifted >>> LIMB_BITS;
            }
            limbs[length] = carry;
            size = length + 1;
        }

        /** shift is 0 .. 31. */
        void shiftRight(int shift) {
            for (int i = 0; i < size; i++) {
                long both = (limbAt(i + 1) << LIMB_BITS) | limbs[i];
                limbs[i] = (both >>> shift) & LOW_BITS;
            }
            trim(size);
        }

        /** The limbs below length are in place; those that are 0 at their top do not count. */
        void trim(int length) {
            size = length;
            while (size > 0 && limbs[size - 1] == 0) {
                size--;
            }
        }

        private void clear(int length) {
            for (int i = 0; i < length; i++) {
                limbs[i] = 0;
            }
        }
    }

    /** Long division, limb by limb: Knuth's algorithm D. */
    private static final class Divider {
        final Natural quotient;
        final Natural rest;
        private final Natural divisor;

        Divider() {
            quotient = new Natural();
            rest = new Natural();
            divisor = new Natural();
        }

        /** Neither is a number of this object; for b = 0, which no caller gives, a is left over. */
        void divide(Natural a, Natural b) {
            if (b.isZero() || a.order(b) < 0) {
                quotient.size = 0;
                rest.become(a);
                return;
            }
            // The divisor's highest bit must be set, or the estimates would be far off.
            int shift = b.freeBits();
            divisor.becomeShiftedLeft(b, shift);
            divisor.trim(b.size);
            rest.becomeShiftedLeft(a, shift);
            for (int at = a.size - b.size; at >= 0; at--) {
                long factor = estimate(at);
                if (subtract(factor, at)) {
                    factor--;
                    addBack(at);
                }
                quotient.limbs[at] = factor;
            }
            quotient.trim(a.size - b.size + 1);
            rest.trim(b.size);
            rest.shiftRight(shift);
        }

        /** The quotient's limb, or 1 more, from the divisor's two highest limbs. */
        private long estimate(int at) {
            long highest = divisor.limbAt(divisor.size - 1);
            long second = divisor.limbAt(divisor.size - 2);
            int top = at + divisor.size;
            long both = (rest.limbAt(top) << LIMB_BITS) | rest.limbAt(top - 1);
            long factor = rest.limbAt(top) >= highest ? LOW_BITS : quotientOf(both, highest);
            long left = both - factor * highest;
            // The highest limb alone gives at most 2 too much.
            for (int i = 0; i < 2 && left <= LOW_BITS; i++) {
                long next = (left << LIMB_BITS) | rest.limbAt(top - 2);
                if (Long.compareUnsigned(factor * second, next) <= 0) {
                    break;
                }
                factor--;
                left += highest;
            }
            return factor;
        }

        /** Takes the divisor, times the factor, from the rest's limbs from at on: whether that was too much. */
        private boolean subtract(long factor, int at) {
            int length = divisor.size;
            long carry = 0;
            long borrow = 0;
            for (int i = 0; i < length; i++) {
                long times = factor * divisor.limbs[i] + carry;
                carry = times >>> LIMB_BITS;
                long difference = rest.limbs[at + i] - (times & LOW_BITS) - borrow;
                rest.limbs[at + i] = difference & LOW_BITS;
                borrow = difference < 0 ? 1 : 0;
            }
            // The limb above would be 0 now, or once added back; it is not written, as nothing looks at it again.
            return rest.limbs[at + length] < carry + borrow;
        }

        private void addBack(int at) {
            int length = divisor.size;
            long carry = 0;
            for (int i = 0; i < length; i++) {
                long sum = rest.limbs[at + i] + divisor.limbs[i] + carry;
                rest.limbs[at + i] = sum & LOW_BITS;
                carry = sum >>> LIMB_BITS;
            }
        }

        /** A dividend of 64 bits without a sign, where Java's own division would see one; divisor 1 .. 2^32 - 1. */
        private static long quotientOf(long dividend, long divisor) {
            if (divisor <= 0) {
                return 0;
            }
            if (dividend >= 0) {
                return dividend / divisor;
            }
            long even = ((dividend >>> 1) / divisor) << 1;
            return dividend - even * divisor >= divisor ? even + 1 : even;
        }
    }

    /** Decimal digits, got in groups of nine, lowest first. */
    private static final class Decimal {
        private final Natural left;

        Decimal() {
            left = new Natural();
        }

        int digitAt(Natural number, int i) {
            if (i < 0 || i >= MOST_DIGITS) {
                return 0;
            }
            left.become(number);
            for (int passed = 0; passed < i / DIGITS_OF_A_BILLION; passed++) {
                takeGroup();
            }
            long group = takeGroup();
            for (int passed = 0; passed < i % DIGITS_OF_A_BILLION; passed++) {
                group /= 10;
            }
            return (int) (group % 10);
        }

        int length(Natural number) {
            left.become(number);
            int lower = 0;
            long group = takeGroup();
            for (int i = 0; i < MOST_DIGITS && !left.isZero(); i++) {
                lower += DIGITS_OF_A_BILLION;
                group = takeGroup();
            }
            int length = 1;
            for (int i = 1; i < DIGITS_OF_A_BILLION && group >= 10; i++) {
                group /= 10;
                length++;
            }
            return lower + length;
        }

        private long takeGroup() {
            long rest = 0;
            for (int i = left.size - 1; i >= 0; i--) {
                long both = (rest << LIMB_BITS) | left.limbs[i];
                left.limbs[i] = both / BILLION;
                rest = both % BILLION;
            }
            left.trim(left.size);
            return rest;
        }
    }
}
