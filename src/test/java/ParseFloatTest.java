/** Promise 5: parseFloat, the values: rounded once, never by way of a double. */
public final class ParseFloatTest {
    private static final int INFINITY = 0x7F800000;
    private static final int NAN = 0x7FC00000;
    private static final int MINUS = Integer.MIN_VALUE;
    private static final int GREATEST = 0x7F7FFFFF;
    private static final int LEAST_NORMAL = 0x00800000;
    private static final int ONE = 0x3F800000;

    public static void main(String[] args) {
        Checks checks = new Checks();
        ordinary(checks);
        signsAndNames(checks);
        edges(checks);
        roundedOnce(checks);
        longTexts(checks);
        checks.finish();
    }

    private static void ordinary(Checks checks) {
        checks.dueFloat("1", ONE);
        checks.dueFloat("0.1", 0x3DCCCCCD);
        checks.dueFloat("0.1d", 0x3DCCCCCD);
        checks.dueFloat("-3.1415927", 0xC0490FDB);
        checks.dueFloat("16777217", 0x4B800000);
        checks.dueFloat("16777219", 0x4B800002);
        checks.dueFloat("0x1.921fb6p1", 0x40490FDB);
        checks.dueFloat("0xffffffp0F", 0x4B7FFFFF);
        checks.dueFloat("0x1ffffffp0", 0x4C000000);
    }

    private static void signsAndNames(Checks checks) {
        checks.dueFloat("0", 0);
        checks.dueFloat("-0.0", MINUS);
        checks.dueFloat("-0x0p9", MINUS);
        checks.dueFloat("-1e-60", MINUS);
        checks.dueFloat("-1e60", MINUS | INFINITY);
        checks.dueFloat("Infinity", INFINITY);
        checks.dueFloat("-Infinity", MINUS | INFINITY);
        checks.dueFloat("NaN", NAN);
        checks.dueFloat("-NaN", NAN);
    }

    private static void edges(Checks checks) {
        checks.dueFloat("3.4028235e38", GREATEST);
        checks.dueFloat("340282346638528859811704183484516925440", GREATEST);
        checks.dueFloat("340282356779733661637539395458142568447", GREATEST);
        checks.dueFloat("340282356779733661637539395458142568447." + "9".repeat(8000), GREATEST);
        checks.dueFloat("340282356779733661637539395458142568448", INFINITY);
        checks.dueFloat("0x1.fffffefp127", GREATEST);
        checks.dueFloat("0x1.fffffeffffffffffffffffp127", GREATEST);
        checks.dueFloat("0x1.ffffffp127", INFINITY);
        checks.dueFloat("0x1p128", INFINITY);
        checks.dueFloat("1e39", INFINITY);
        checks.dueFloat("1e308", INFINITY);
        checks.dueFloat("1.4e-45", 1);
        checks.dueFloat("0x1p-149", 1);
        checks.dueFloat("0x1p-150", 0);
        checks.dueFloat("0x1.0000000000000000000000000001p-150", 1);
        checks.dueFloat("0x3p-150", 2);
        checks.dueFloat("0x5p-150", 2);
        checks.dueFloat("0x1p-151", 0);
        checks.dueFloat("4.9e-324", 0);
        checks.dueFloat("0x1p-126", LEAST_NORMAL);
        checks.dueFloat("0x0.ffffffp-126", LEAST_NORMAL);
        checks.dueFloat("0x0.fffffep-126", LEAST_NORMAL - 1);
        checks.dueFloat("0x0.fffffe8p-126", LEAST_NORMAL - 1);
    }

    private static void roundedOnce(Checks checks) {
        checks.dueFloat("0x1.000001p0", ONE);
        checks.dueFloat("0x1.0000010000000001p0", ONE + 1);
        checks.dueFloat("0x1.000002ffffffffffffp0", ONE + 1);
        checks.dueFloat("0x1.000003p0", ONE + 2);
        checks.dueFloat("1.00000005960464477539062500000000000000000001", ONE + 1);
        checks.dueFloat("1.000000059604644775390625", ONE);
        checks.dueFloat("1.00000017881393432617187499999999999999999999", ONE + 1);
        checks.dueFloat("1.000000178813934326171875", ONE + 2);
        checks.dueFloat("0x1.0000010000000000001p-149", 1);
        checks.dueFloat("0x1.7fffffffffffffffffp-149", 1);
        checks.dueFloat("0x1.8p-149", 2);
        String half = new java.math.BigDecimal(2).pow(-150, new java.math.MathContext(500)).toPlainString();
        checks.dueFloat(half, 0);
        checks.dueFloat(half + "0".repeat(8000) + "1", 1);
    }

    private static void longTexts(Checks checks) {
        checks.dueFloat("1." + "0".repeat(7) + "59604644775390625" + "0".repeat(8165) + "1", ONE + 1);
        checks.dueFloat("1." + "0".repeat(7) + "59604644775390625" + "0".repeat(8166), ONE);
        checks.dueFloat("0x1.000001" + "0".repeat(8179) + "1p0", ONE + 1);
        checks.dueFloat("1" + "0".repeat(8185) + "e-8185", ONE);
        checks.dueFloat("0x1" + "0".repeat(8181) + "p-32724", ONE);
        checks.dueFloat("0." + "9".repeat(8190), ONE);
        checks.dueFloat("9".repeat(8192), INFINITY);
        checks.dueFloat("1e" + "9".repeat(8190), INFINITY);
        checks.dueFloat("-1e-" + "9".repeat(8188), MINUS);
        checks.dueFloat("0e" + "9".repeat(8190), 0);
        checks.dueFloat("0x1p4294967296", INFINITY);
        checks.dueFloat("0x1p-18446744073709551616", 0);
    }
}
