import java.util.Arrays;

/**
 * Texts of numbers, decimal and hexadecimal, of any length, read as doubles and floats: their
 * exact value, rounded once.
 */
public final class DecimalReader {
    private static final int TAPE_LIMIT = 8192;
    private static final int FEED_BYTES = 20;
    private static final int LAST_BLANK = 32;

    private static final int NAN = 0;
    private static final int INFINITE = 1;
    private static final int DECIMAL = 2;
    private static final int HEX = 3;

    private static final int NO_DIGIT = 16;

    // From here on an exponent outweighs all digits that the tape can hold (4 * 8192 powers of
    // two), so its further digits change no answer.
    private static final int EXPONENT_ENOUGH = 1000000;

    private final Kind doubles;
    private final Kind floats;
    private final Value value;

    private final byte[] tape;
    private int length;

    // What the last scan found; at and stop are the reading head and the end without blanks.
    private int at;
    private int stop;
    private boolean negative;
    private int form;
    private int digitsFrom;
    private int digitsTo;
    private int wholeDigits;
    private int exponent;

    public DecimalReader() {
        doubles = new Kind(53, -1074, 971);
        floats = new Kind(24, -149, 104);
        value = new Value();
        tape = new byte[TAPE_LIMIT];
        length = 0;
    }

    public int feed(int a, int b, int c, int d, int e) throws IndexOutOfBoundsException {
        if (length > TAPE_LIMIT - FEED_BYTES) {
            throw new IndexOutOfBoundsException("the tape has no room for 20 bytes more");
        }
        appendBytes(a);
        appendBytes(b);
        appendBytes(c);
        appendBytes(d);
        appendBytes(e);
        return length;
    }

    public int end(int n) throws IllegalArgumentException {
        if (n < 0 || n > length) {
            throw new IllegalArgumentException("the tape has no such length to keep");
        }
        length = n;
        return n;
    }

    public long parse() throws UnsupportedOperationException {
        if (!readTape()) {
            throw new UnsupportedOperationException("the tape is no number text");
        }
        return answerAs(doubles);
    }

    public int parseFloat() throws UnsupportedOperationException {
        if (!readTape()) {
            throw new UnsupportedOperationException("the tape is no number text");
        }
        return (int) answerAs(floats);
    }

    private void appendBytes(int four) {
        for (int shift = 24; shift >= 0; shift -= 8) {
            tape[length] = (byte) (four >>> shift);
            length++;
        }
    }

    /** Empties the tape in every case; false if it was no number text. */
    private boolean readTape() {
        boolean isNumber = scanText();
        if (isNumber && (form == DECIMAL || form == HEX)) {
            placeDigits();
        }
        length = 0;
        return isNumber;
    }

    private long answerAs(Kind kind) {
        if (form == NAN) {
            return kind.nan;
        }
        long size = form == INFINITE ? kind.infinity : value.rounded(kind);
        return negative ? size | kind.sign : size;
    }

    private boolean scanText() {
        leaveBlanksOut();
        negative = takeSign();
        if (restIs("NaN")) {
            form = NAN;
            return true;
        }
        if (restIs("Infinity")) {
            form = INFINITE;
            return true;
        }
        return scanDigits() && scanExponent() && restIsSuffix();
    }

    private void leaveBlanksOut() {
        at = 0;
        stop = length;
        while (at < stop && isBlank(tape[at])) {
            at++;
        }
        while (stop > at && isBlank(tape[stop - 1])) {
            stop--;
        }
    }

    private boolean scanDigits() {
        form = takeHexStart() ? HEX : DECIMAL;
        int base = form == HEX ? 16 : 10;
        digitsFrom = at;
        wholeDigits = skipDigits(base);
        int digits = wholeDigits;
        if (take('.')) {
            digits += skipDigits(base);
        }
        digitsTo = at;
        return digits > 0;
    }

    private boolean scanExponent() {
        exponent = 0;
        boolean there = form == HEX ? take('p') || take('P') : take('e') || take('E');
        if (!there) {
            return form == DECIMAL;
        }
        boolean below = takeSign();
        int from = at;
        int to = from + skipDigits(10);
        for (int i = from; i < to && exponent < EXPONENT_ENOUGH; i++) {
            exponent = 10 * exponent + digitOf(tape[i]);
        }
        if (below) {
            exponent = -exponent;
        }
        return to > from;
    }

    private boolean restIsSuffix() {
        return at == stop || restIs("f") || restIs("F") || restIs("d") || restIs("D");
    }

    /** True for a minus; a plus is taken, too. */
    private boolean takeSign() {
        if (take('-')) {
            return true;
        }
        take('+');
        return false;
    }

    private boolean takeHexStart() {
        boolean there = at + 1 < stop && tape[at] == '0'
            && (tape[at + 1] == 'x' || tape[at + 1] == 'X');
        if (there) {
            at += 2;
        }
        return there;
    }

    private boolean take(char wanted) {
        if (at >= stop || tape[at] != wanted) {
            return false;
        }
        at++;
        return true;
    }

    private boolean restIs(String word) {
        if (stop - at != word.length()) {
            return false;
        }
        for (int i = 0; i < word.length(); i++) {
            if (tape[at + i] != word.charAt(i)) {
                return false;
            }
        }
        return true;
    }

    private int skipDigits(int base) {
        int from = at;
        while (at < stop && digitOf(tape[at]) < base) {
            at++;
        }
        return at - from;
    }

    private void placeDigits() {
        value.clear();
        int step = form == HEX ? 4 : 1;
        int weight = exponent + step * (wholeDigits - 1);
        for (int i = digitsFrom; i < digitsTo; i++) {
            if (tape[i] != '.') {
                placeDigit(digitOf(tape[i]), weight);
                weight -= step;
            }
        }
        value.turnBinary();
    }

    private void placeDigit(int digit, int weight) {
        if (form == HEX) {
            value.addHexDigit(digit, weight);
        } else {
            value.addDecimalDigit(digit, weight);
        }
    }

    // A byte from 128 on is negative in Java, but it is no blank.
    private static boolean isBlank(byte b) {
        return b >= 0 && b <= LAST_BLANK;
    }

    private static int digitOf(byte b) {
        if (b >= '0' && b <= '9') {
            return b - '0';
        }
        if (b >= 'a' && b <= 'f') {
            return b - 'a' + 10;
        }
        if (b >= 'A' && b <= 'F') {
            return b - 'A' + 10;
        }
        return NO_DIGIT;
    }

    /** What sets doubles and floats apart: the document's P, E and m, and the bits that follow. */
    private static final class Kind {
        final int precision;
        final int leastPower;
        final int greatestPower;
        final long exponentUnit;
        final long infinity;
        final long nan;
        final long sign;

        Kind(int precision, int leastPower, int greatestPower) {
            this.precision = precision;
            this.leastPower = leastPower;
            this.greatestPower = greatestPower;
            exponentUnit = 1L << (precision - 1);
            infinity = (greatestPower - leastPower + 2) * exponentUnit;
            nan = infinity + exponentUnit / 2;
            sign = infinity + exponentUnit;
        }
    }

    /**
     * A number without sign, in fixed point. Decimal digits are gathered in limbs of nine, the
     * highest first, and then turned into words of 32 bits, the highest first; hexadecimal digits
     * go to the words at once.
     */
    private static final class Value {
        private static final int BILLION = 1000000000;
        private static final int LIMB_DIGITS = 9;
        private static final int[] POWERS_OF_TEN = {
            1, 10, 100, 1000, 10000, 100000, 1000000, 10000000, 100000000
        };

        // The greatest finite double is below 10^309. The finest thing to tell apart is a
        // multiple of 2^-1075, which has no more than 1075 decimal places: of a digit behind
        // them (or a bit behind 2^-1075) it matters only whether it is 0.
        private static final int WHOLE_LIMBS = 35;
        private static final int LIMBS = WHOLE_LIMBS + 120;
        private static final int HIGHEST_TEN = WHOLE_LIMBS * LIMB_DIGITS - 1;
        private static final int LOWEST_TEN = (WHOLE_LIMBS - LIMBS) * LIMB_DIGITS;

        // 33 words hold every number that 35 limbs hold: 10^315 is below 2^1056.
        private static final int WORD_BITS = 32;
        private static final int WHOLE_WORDS = 33;
        private static final int WORDS = WHOLE_WORDS + 34;
        private static final int HIGHEST_TWO = WHOLE_WORDS * WORD_BITS - 1;
        private static final int LOWEST_TWO = (WHOLE_WORDS - WORDS) * WORD_BITS;
        private static final long WORD_MASK = 0xFFFFFFFFL;

        private final int[] limbs;
        private final int[] words;
        private boolean isHuge;
        private boolean hasMore;

        Value() {
            limbs = new int[LIMBS];
            words = new int[WORDS];
            isHuge = false;
            hasMore = false;
        }

        void clear() {
            Arrays.fill(limbs, 0);
            Arrays.fill(words, 0);
            isHuge = false;
            hasMore = false;
        }

        void addDecimalDigit(int digit, int weight) {
            if (digit == 0) {
                return;
            }
            if (weight > HIGHEST_TEN) {
                isHuge = true;
            } else if (weight < LOWEST_TEN) {
                hasMore = true;
            } else {
                int place = HIGHEST_TEN - weight;
                int power = POWERS_OF_TEN[LIMB_DIGITS - 1 - place % LIMB_DIGITS];
                limbs[place / LIMB_DIGITS] += digit * power;
            }
        }

        void addHexDigit(int digit, int weight) {
            for (int i = 0; i < 4; i++) {
                if ((digit >>> i & 1) != 0) {
                    addBit(weight + i);
                }
            }
        }

        private void addBit(int power) {
            if (power > HIGHEST_TWO) {
                isHuge = true;
            } else if (power < LOWEST_TWO) {
                hasMore = true;
            } else {
                words[wordOf(power)] |= 1 << shiftOf(power);
            }
        }

        /** Moves what the limbs hold into the words; what does not fit there is kept as more. */
        void turnBinary() {
            int used = usedLimbs();
            boolean started = false;
            for (int i = 0; i < WHOLE_LIMBS; i++) {
                started = started || limbs[i] != 0;
                if (started) {
                    appendWholeLimb(limbs[i]);
                }
            }
            for (int i = WHOLE_WORDS; i < WORDS && used > WHOLE_LIMBS; i++) {
                words[i] = takeFractionWord(used);
            }
            for (int i = WHOLE_LIMBS; i < used; i++) {
                hasMore = hasMore || limbs[i] != 0;
            }
        }

        private int usedLimbs() {
            int used = LIMBS;
            while (used > 0 && limbs[used - 1] == 0) {
                used--;
            }
            return used;
        }

        private void appendWholeLimb(int limb) {
            long carry = limb;
            for (int i = WHOLE_WORDS - 1; i >= 0; i--) {
                long product = (words[i] & WORD_MASK) * BILLION + carry;
                words[i] = (int) product;
                carry = product >>> WORD_BITS;
            }
        }

        /** Multiplies the fraction by 2^32: what comes over the point is its next word. */
        private int takeFractionWord(int used) {
            long carry = 0;
            for (int i = used - 1; i >= WHOLE_LIMBS; i--) {
                long product = ((long) limbs[i] << WORD_BITS) + carry;
                limbs[i] = (int) (product % BILLION);
                carry = product / BILLION;
            }
            return (int) carry;
        }

        long rounded(Kind kind) {
            int top = topPower();
            int last = Math.max(top - kind.precision + 1, kind.leastPower);
            if (isHuge || last > kind.greatestPower) {
                return kind.infinity;
            }
            long c = 0;
            for (int power = top; power >= last; power--) {
                c = 2 * c + bitAt(power);
            }
            if (bitAt(last - 1) == 1 && (c % 2 == 1 || isMoreBelow(last - 1))) {
                c++;
            }
            // A c that has grown to 2^P steps the exponent up by this same sum, to infinity, too.
            return (last - kind.leastPower) * kind.exponentUnit + c;
        }

        private int topPower() {
            int power = HIGHEST_TWO;
            while (power >= LOWEST_TWO && words[wordOf(power)] == 0) {
                power -= WORD_BITS;
            }
            while (power >= LOWEST_TWO && bitAt(power) == 0) {
                power--;
            }
            return power;
        }

        private boolean isMoreBelow(int power) {
            int word = wordOf(power);
            if (hasMore || (words[word] & ((1 << shiftOf(power)) - 1)) != 0) {
                return true;
            }
            for (int i = word + 1; i < WORDS; i++) {
                if (words[i] != 0) {
                    return true;
                }
            }
            return false;
        }

        private int bitAt(int power) {
            return words[wordOf(power)] >>> shiftOf(power) & 1;
        }

        // Both ask for a power from LOWEST_TWO to HIGHEST_TWO.
        private static int wordOf(int power) {
            return (HIGHEST_TWO - power) / WORD_BITS;
        }

        private static int shiftOf(int power) {
            return WORD_BITS - 1 - (HIGHEST_TWO - power) % WORD_BITS;
        }
    }
}
