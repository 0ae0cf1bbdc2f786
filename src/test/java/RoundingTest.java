import java.math.BigDecimal;
import java.math.BigInteger;
import java.util.Random;

/** Promises 4 and 5: many numbers, above all such as lie on or beside the middle of two neighbours. */
public final class RoundingTest {
    private final Checks checks = new Checks();
    private final Random random = new Random(5);

    public static void main(String[] args) {
        RoundingTest test = new RoundingTest();
        test.powersOfTen();
        test.powersOfTwo();
        test.shortTexts();
        test.longDecimals();
        test.longHexes();
        test.middlesOfDoubles();
        test.middlesOfFloats();
        test.checks.finish();
    }

    private void both(String text) {
        checks.due("parse of '" + text + "'", Checks.readerOf(text)::parse, Oracle.ofDouble(text));
        checks.due("parseFloat of '" + text + "'", Checks.readerOf(text)::parseFloat, Oracle.ofFloat(text));
    }

    private void powersOfTen() {
        for (int e = -420; e <= 330; e++) {
            both("1e" + e);
            both("-9.999999999999999999999999e" + e);
            both("5" + "0".repeat(random.nextInt(30)) + "1e" + e);
        }
    }

    private void powersOfTwo() {
        for (int e = -1110; e <= 1070; e++) {
            both("0x1p" + e);
            both("0x1.fffffffffffff8p" + e);
            both("0x1.00000000000008p" + e);
            both("0x1.0000000000000800000000001p" + e);
            both("0x1.0000010p" + e);
        }
    }

    private void shortTexts() {
        for (int i = 0; i < 20000; i++) {
            both(digits(1 + random.nextInt(20), 10) + "." + digits(random.nextInt(20), 10)
                + "e" + (random.nextInt(720) - 380));
            both("0x" + digits(1 + random.nextInt(20), 16) + "." + digits(random.nextInt(20), 16)
                + "p" + (random.nextInt(2400) - 1250));
        }
    }

    private void longDecimals() {
        for (int i = 0; i < 1000; i++) {
            int size = 1 + random.nextInt(i % 10 == 0 ? 4000 : 400);
            int behind = random.nextInt(i % 10 == 0 ? 4000 : 400);
            both(digits(size, 10) + "." + digits(behind, 10) + "e" + (random.nextInt(800) - 400 - size));
        }
    }

    private void longHexes() {
        for (int i = 0; i < 1000; i++) {
            int size = 1 + random.nextInt(i % 10 == 0 ? 4000 : 400);
            int behind = random.nextInt(i % 10 == 0 ? 4000 : 400);
            both("0x" + digits(size, 16) + "." + digits(behind, 16)
                + "p" + (random.nextInt(2400) - 1250 - 4 * size));
        }
    }

    private void middlesOfDoubles() {
        for (int i = 0; i < 1500; i++) {
            long bits = random.nextLong() & Long.MAX_VALUE;
            if (i % 3 == 0) {
                bits >>>= 12 + random.nextInt(50);
            }
            double low = Double.longBitsToDouble(bits);
            double high = Math.nextUp(low);
            if (high < Double.POSITIVE_INFINITY) {
                aroundMiddle(new BigDecimal(low), new BigDecimal(high));
            }
        }
    }

    private void middlesOfFloats() {
        for (int i = 0; i < 3000; i++) {
            int bits = random.nextInt() & Integer.MAX_VALUE;
            if (i % 3 == 0) {
                bits >>>= 9 + random.nextInt(21);
            }
            float low = Float.intBitsToFloat(bits);
            float high = Math.nextUp(low);
            if (high < Float.POSITIVE_INFINITY) {
                aroundMiddle(new BigDecimal(low), new BigDecimal(high));
            }
        }
    }

    private void aroundMiddle(BigDecimal low, BigDecimal high) {
        BigDecimal middle = low.add(high).divide(BigDecimal.valueOf(2));
        BigDecimal tiny = BigDecimal.ONE.movePointLeft(middle.scale() + 1 + random.nextInt(500));
        both(low.toPlainString());
        both(middle.toPlainString());
        both("-" + middle.toPlainString());
        both(middle.add(tiny).toPlainString());
        both(middle.subtract(tiny).toPlainString());
        shifted(middle);
        shifted(middle.add(tiny));
        shifted(middle.subtract(tiny));
    }

    /** The same number with its point elsewhere. */
    private void shifted(BigDecimal number) {
        int shift = random.nextInt(1500) - 500;
        BigInteger digits = number.unscaledValue();
        int scale = number.scale();
        both(digits + "e" + -scale);
        both(number.movePointLeft(shift).toPlainString() + (shift < 0 ? "e" : "E+") + shift);
    }

    private String digits(int count, int base) {
        StringBuilder text = new StringBuilder();
        boolean oneKind = random.nextInt(4) == 0;
        int kind = random.nextInt(base);
        for (int i = 0; i < count; i++) {
            int digit = oneKind ? kind : random.nextInt(base);
            char c = Character.forDigit(digit, base);
            text.append(random.nextBoolean() ? Character.toUpperCase(c) : c);
        }
        return text.toString();
    }
}
