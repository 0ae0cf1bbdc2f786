import java.math.BigInteger;
import java.util.regex.Matcher;
import java.util.regex.Pattern;

/** The document's NUMBER TEXT and ROUNDS in whole fractions: slow, and made another way than the class. */
final class Oracle {
    private static final Pattern DECIMAL = Pattern.compile(
        "([0-9]*)(?:\\.([0-9]*))?(?:[eE]([+-]?[0-9]+))?[fFdD]?");
    private static final Pattern HEX = Pattern.compile(
        "0[xX]([0-9a-fA-F]*)(?:\\.([0-9a-fA-F]*))?[pP]([+-]?[0-9]+)[fFdD]?");

    private Oracle() {
    }

    static String ofDouble(String text) {
        return answer(text, 53, -1074, 971, Long.MIN_VALUE, 0x7FF0000000000000L, 0x7FF8000000000000L);
    }

    static String ofFloat(String text) {
        String bits = answer(text, 24, -149, 104, 0x80000000L, 0x7F800000L, 0x7FC00000L);
        return bits.equals(Checks.UNSUPPORTED) ? bits : Integer.toString((int) Long.parseLong(bits));
    }

    private static String answer(String text, int p, int e, int m, long sign, long infinity, long nan) {
        String body = withoutBlanks(text);
        boolean minus = body.startsWith("-");
        if (minus || body.startsWith("+")) {
            body = body.substring(1);
        }
        if (body.equals("NaN")) {
            return Long.toString(nan);
        }
        long size;
        if (body.equals("Infinity")) {
            size = infinity;
        } else {
            BigInteger[] fraction = fractionOf(body);
            if (fraction == null) {
                return Checks.UNSUPPORTED;
            }
            size = round(fraction[0], fraction[1], p, e, m, infinity);
        }
        return Long.toString(minus ? size + sign : size);
    }

    private static String withoutBlanks(String text) {
        int from = 0;
        int to = text.length();
        while (from < to && text.charAt(from) <= 32) {
            from++;
        }
        while (to > from && text.charAt(to - 1) <= 32) {
            to--;
        }
        return text.substring(from, to);
    }

    private static BigInteger[] fractionOf(String body) {
        Matcher hex = HEX.matcher(body);
        if (hex.matches()) {
            return fractionOf(hex, 16, 2, 4);
        }
        Matcher decimal = DECIMAL.matcher(body);
        return decimal.matches() ? fractionOf(decimal, 10, 10, 1) : null;
    }

    private static BigInteger[] fractionOf(Matcher parts, int base, int root, int rootsADigit) {
        String behind = parts.group(2) == null ? "" : parts.group(2);
        String digits = parts.group(1) + behind;
        if (digits.isEmpty()) {
            return null;
        }
        int exponent = parts.group(3) == null ? 0 : exponentOf(parts.group(3));
        exponent -= rootsADigit * behind.length();
        BigInteger whole = new BigInteger(digits, base);
        BigInteger power = BigInteger.valueOf(root).pow(Math.abs(exponent));
        return exponent >= 0
            ? new BigInteger[] {whole.multiply(power), BigInteger.ONE}
            : new BigInteger[] {whole, power};
    }

    // No power so far off is brought back by 8192 digits, 4 powers of two each, so farther ones say the same.
    private static int exponentOf(String digits) {
        BigInteger farthest = BigInteger.valueOf(100000);
        return new BigInteger(digits).min(farthest).max(farthest.negate()).intValueExact();
    }

    private static long round(BigInteger over, BigInteger under, int p, int e, int m, long infinity) {
        if (over.signum() == 0) {
            return 0;
        }
        BigInteger edge = BigInteger.ONE.shiftLeft(p + 1).subtract(BigInteger.ONE).shiftLeft(m - 1);
        if (over.compareTo(edge.multiply(under)) >= 0) {
            return infinity;
        }
        int q = Math.max(e, over.bitLength() - under.bitLength() - p - 2);
        BigInteger limit = BigInteger.ONE.shiftLeft(p);
        while (floor(over, under, q).compareTo(limit) >= 0) {
            q++;
        }
        BigInteger c = floor(over, under, q);
        // Twice the number against 2c + 1, both over 2^q: the place between c and c + 1.
        BigInteger middle = c.shiftLeft(1).add(BigInteger.ONE);
        int side = compareToMiddle(over, under, middle, q - 1);
        if (side > 0 || side == 0 && c.testBit(0)) {
            c = c.add(BigInteger.ONE);
        }
        if (c.equals(limit)) {
            c = c.shiftRight(1);
            q++;
        }
        boolean subnormal = c.bitLength() < p;
        long exponentBits = subnormal ? 0 : q - e + 1;
        long fractionBits = subnormal ? c.longValueExact() : c.clearBit(p - 1).longValueExact();
        return exponentBits << (p - 1) | fractionBits;
    }

    private static BigInteger floor(BigInteger over, BigInteger under, int q) {
        return q >= 0 ? over.divide(under.shiftLeft(q)) : over.shiftLeft(-q).divide(under);
    }

    private static int compareToMiddle(BigInteger over, BigInteger under, BigInteger middle, int power) {
        BigInteger right = middle.multiply(under);
        return power >= 0 ? over.compareTo(right.shiftLeft(power)) : over.shiftLeft(-power).compareTo(right);
    }
}
