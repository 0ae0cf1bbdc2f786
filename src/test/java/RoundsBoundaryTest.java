import java.math.BigDecimal;
import java.math.BigInteger;

/** The sentences on DOUBLES and FLOATS and on ROUNDS that name a boundary case: a test for each. */
public final class RoundsBoundaryTest {
    // How far beside a boundary a number lies: 2^-k of the boundary's own unit, or k digits behind its last.
    private static final int[] NEAR = {1, 3, 64, 3000};

    private final Checks checks;
    private final String kind;
    private final boolean isDouble;
    private final int p;
    private final int e;
    private final int m;

    private RoundsBoundaryTest(Checks checks, boolean isDouble) {
        this.checks = checks;
        this.isDouble = isDouble;
        kind = isDouble ? "DOUBLES: " : "FLOATS: ";
        p = isDouble ? 53 : 24;
        e = isDouble ? -1074 : -149;
        m = isDouble ? 971 : 104;
    }

    public static void main(String[] args) {
        Checks checks = new Checks();
        for (boolean isDouble : new boolean[] {true, false}) {
            RoundsBoundaryTest test = new RoundsBoundaryTest(checks, isDouble);
            test.leastPower();
            test.betweenSubnormalAndNormal();
            test.greatestC();
            test.nearest();
            test.evenOfTwo();
            test.toInfinity();
            test.greatestFinite();
        }
        checks.finish();
    }

    private void leastPower() {
        checks.sentence(kind + "+-c 2^q, q at least E");
        exactly(1, e, bits(1, e));
        exactly(2, e, bits(2, e));
        exactly(1, e - 1, 0);
        justBelow(1, e - 1, 0);
        justAbove(1, e - 1, bits(1, e));
        exactly(3, e - 1, bits(2, e));
        justBelow(3, e - 1, bits(1, e));
        exactly(5, e - 1, bits(2, e));
        justAbove(5, e - 1, bits(3, e));
        exactly(1, e - 2, 0);
        exactly(1, e - 3000, 0);
    }

    private void betweenSubnormalAndNormal() {
        checks.sentence(kind + "c 2^(P-1) or more, but for q = E");
        long normal = 1L << (p - 1);
        exactly(normal, e, bits(normal, e));
        exactly(normal - 1, e, bits(normal - 1, e));
        exactly(normal + 1, e, bits(normal + 1, e));
        exactly(2 * normal - 1, e - 1, bits(normal, e));
        justBelow(2 * normal - 1, e - 1, bits(normal - 1, e));
        exactly(2 * normal + 1, e - 1, bits(normal, e));
        justAbove(2 * normal + 1, e - 1, bits(normal + 1, e));
        exactly(2 * normal - 1, e, bits(2 * normal - 1, e));
        exactly(normal, e + 1, bits(normal, e + 1));
    }

    private void greatestC() {
        checks.sentence(kind + "c below 2^P");
        long greatest = (1L << p) - 1;
        for (int q : new int[] {e, e + 1, -p, -1, 0, 1, m - 1}) {
            exactly(greatest, q, bits(greatest, q));
            justBelow(2 * greatest + 1, q - 1, bits(greatest, q));
            exactly(2 * greatest + 1, q - 1, bits(1L << (p - 1), q + 1));
            justBelow(greatest + 1, q, bits(1L << (p - 1), q + 1), 3);
            exactly(greatest + 1, q, bits(1L << (p - 1), q + 1));
        }
    }

    private void nearest() {
        checks.sentence(kind + "a number is rounded to the nearest one of the kind");
        long least = 1L << (p - 1);
        for (int q : new int[] {e, e + 1, -p, 0, m}) {
            for (long c : new long[] {least, least + 1, least + least / 2, 2 * least - 2}) {
                exactly(c, q, bits(c, q));
                exactly(4 * c + 1, q - 2, bits(c, q));
                exactly(4 * c + 3, q - 2, bits(c + 1, q));
                justBelow(2 * c + 1, q - 1, bits(c, q));
                justAbove(2 * c + 1, q - 1, bits(c + 1, q));
            }
        }
    }

    private void evenOfTwo() {
        checks.sentence(kind + "of two to the one whose c is even");
        long least = 1L << (p - 1);
        for (int q : new int[] {e, e + 1, -p, 0, m}) {
            for (long c : new long[] {least, least + 2, least + least / 2, 2 * least - 4}) {
                exactly(2 * c + 1, q - 1, bits(c, q));
                exactly(2 * c + 3, q - 1, bits(c + 2, q));
            }
        }
        for (long c : new long[] {0, 2, 4, least - 2}) {
            exactly(2 * c + 1, e - 1, bits(c, e));
            exactly(2 * c + 3, e - 1, bits(c + 2, e));
        }
    }

    private void toInfinity() {
        checks.sentence(kind + "2^(P-1) (2 - 2^-P) 2^m or more to infinity");
        // 2^(P-1) (2 - 2^-P) 2^m is (2^(P+1) - 1) 2^(m-1).
        long edge = (1L << (p + 1)) - 1;
        exactly(edge, m - 1, infinity());
        justAbove(edge, m - 1, infinity());
        exactly(1, m + p, infinity());
        justAbove(1, m + p, infinity());
        exactly(3, m + p - 1, infinity());
        exactly(1, m + p + 1, infinity());
        exactly(1, m + p + 3000, infinity());
        justBelow(edge, m - 1, bits((1L << p) - 1, m));
    }

    private void greatestFinite() {
        checks.sentence(kind + "m the greatest q (971, 104)");
        long greatest = (1L << p) - 1;
        exactly(greatest, m, bits(greatest, m));
        justAbove(greatest, m, bits(greatest, m), 3);
        exactly(greatest - 1, m, bits(greatest - 1, m));
        exactly(1L << (p - 1), m, bits(1L << (p - 1), m));
        exactly(1L << (p - 1), m + 1, infinity());
    }

    /** The bits of c 2^q as the document has them. */
    private long bits(long c, int q) {
        long normal = 1L << (p - 1);
        return c < normal ? c : ((long) (q - e + 1) << (p - 1)) + c - normal;
    }

    private long infinity() {
        return isDouble ? 0x7FF0000000000000L : 0x7F800000;
    }

    private void exactly(long c, int q, long want) {
        allForms(BigInteger.valueOf(c), q, want);
    }

    private void justBelow(long c, int q, long want) {
        for (int k : NEAR) {
            justBelow(c, q, want, k);
        }
        for (int digits : NEAR) {
            BigDecimal number = decimal(BigInteger.valueOf(c), q);
            decimalForms(number.subtract(BigDecimal.ONE.movePointLeft(number.scale() + digits)), want);
        }
    }

    private void justBelow(long c, int q, long want, int k) {
        allForms(BigInteger.valueOf(c).shiftLeft(k).subtract(BigInteger.ONE), q - k, want);
    }

    private void justAbove(long c, int q, long want) {
        for (int k : NEAR) {
            justAbove(c, q, want, k);
        }
        for (int digits : NEAR) {
            BigDecimal number = decimal(BigInteger.valueOf(c), q);
            decimalForms(number.add(BigDecimal.ONE.movePointLeft(number.scale() + digits)), want);
        }
    }

    private void justAbove(long c, int q, long want, int k) {
        allForms(BigInteger.valueOf(c).shiftLeft(k).add(BigInteger.ONE), q - k, want);
    }

    private static BigDecimal decimal(BigInteger c, int q) {
        return q >= 0 ? new BigDecimal(c.shiftLeft(q))
            : new BigDecimal(c.multiply(BigInteger.valueOf(5).pow(-q)), -q);
    }

    /** c 2^q written in full, with powers of ten and of two, with both signs. */
    private void allForms(BigInteger c, int q, long want) {
        decimalForms(decimal(c, q), want);
        String hex = c.toString(16);
        bothSigns("0x" + hex + "p" + q, want);
        bothSigns("0X." + hex.toUpperCase() + "P" + (q + 4 * hex.length()), want);
    }

    private void decimalForms(BigDecimal number, long want) {
        BigInteger digits = number.unscaledValue();
        bothSigns(number.toPlainString(), want);
        bothSigns(digits + "e" + -number.scale(), want);
        bothSigns("." + digits + "E" + (number.precision() - number.scale()), want);
    }

    private void bothSigns(String text, long want) {
        answers(text, want);
        answers("-" + text, want | (isDouble ? Long.MIN_VALUE : Integer.MIN_VALUE));
    }

    private void answers(String text, long want) {
        if (isDouble) {
            checks.dueDouble(text, want);
        } else {
            checks.dueFloat(text, (int) want);
        }
    }
}
