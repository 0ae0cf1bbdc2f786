/** Promise 4: parse, the values: known ones, the edges, and texts of any length. */
public final class ParseTest {
    private static final long INFINITY = 0x7FF0000000000000L;
    private static final long NAN = 0x7FF8000000000000L;
    private static final long MINUS = Long.MIN_VALUE;
    private static final long GREATEST = 0x7FEFFFFFFFFFFFFFL;
    private static final long LEAST_NORMAL = 0x0010000000000000L;
    private static final long ONE = 0x3FF0000000000000L;

    public static void main(String[] args) {
        Checks checks = new Checks();
        ordinary(checks);
        signsAndNames(checks);
        greatEdge(checks);
        smallEdge(checks);
        ties(checks);
        hexadecimal(checks);
        longDigits(checks);
        longExponents(checks);
        checks.finish();
    }

    private static void ordinary(Checks checks) {
        checks.dueDouble("1", ONE);
        checks.dueDouble("0.1", 0x3FB999999999999AL);
        checks.dueDouble("0.1f", 0x3FB999999999999AL);
        checks.dueDouble("1.1F", 0x3FF199999999999AL);
        checks.dueDouble("3.141592653589793", 0x400921FB54442D18L);
        checks.dueDouble("-2.718281828459045d", 0xC005BF0A8B145769L);
        checks.dueDouble("1e23", 0x44B52D02C7E14AF6L);
        checks.dueDouble("123456789012345678901234567890", 0x45F8EE90FF6C373EL);
        checks.dueDouble("1e22", 0x4480F0CF064DD592L);
        checks.dueDouble("8.5e-3", Double.doubleToLongBits(0.0085));
    }

    private static void signsAndNames(Checks checks) {
        checks.dueDouble("0", 0);
        checks.dueDouble("+0.0", 0);
        checks.dueDouble("-0", MINUS);
        checks.dueDouble("-0x0p0", MINUS);
        checks.dueDouble("-0e99", MINUS);
        checks.dueDouble("-1e-400", MINUS);
        checks.dueDouble("-1e400", MINUS | INFINITY);
        checks.dueDouble("Infinity", INFINITY);
        checks.dueDouble("+Infinity", INFINITY);
        checks.dueDouble("-Infinity", MINUS | INFINITY);
        checks.dueDouble("NaN", NAN);
        checks.dueDouble("+NaN", NAN);
        checks.dueDouble("-NaN", NAN);
    }

    private static void greatEdge(Checks checks) {
        checks.dueDouble("1.7976931348623157e308", GREATEST);
        checks.dueDouble("1.7976931348623158e308", GREATEST);
        checks.dueDouble("1.7976931348623159e308", INFINITY);
        checks.dueDouble("1e308", 0x7FE1CCF385EBC8A0L);
        checks.dueDouble("1e309", INFINITY);
        checks.dueDouble("-1e310", MINUS | INFINITY);
        checks.dueDouble("0x1.fffffffffffffp1023", GREATEST);
        checks.dueDouble("0x1.fffffffffffff7ffffffffffffp1023", GREATEST);
        checks.dueDouble("0x1.fffffffffffff8p1023", INFINITY);
        checks.dueDouble("0x1p1024", INFINITY);
        checks.dueDouble("0x1p1055", INFINITY);
        checks.dueDouble("0x1p1056", INFINITY);
        String edge = new java.math.BigDecimal(java.math.BigInteger.TWO.pow(54).subtract(java.math.BigInteger.ONE)
            .shiftLeft(970)).toPlainString();
        checks.dueDouble(edge, INFINITY);
        checks.dueDouble(edge + "." + "0".repeat(7000), INFINITY);
        checks.dueDouble(lessOne(edge), GREATEST);
        checks.dueDouble(lessOne(edge) + "." + "9".repeat(7000), GREATEST);
        checks.dueDouble("-" + lessOne(edge) + "." + "9".repeat(7000), MINUS | GREATEST);
    }

    private static void smallEdge(Checks checks) {
        checks.dueDouble("4.9e-324", 1);
        checks.dueDouble("3e-324", 1);
        checks.dueDouble("2.4703282292062327e-324", 0);
        checks.dueDouble("2.4703282292062328e-324", 1);
        checks.dueDouble("2.2250738585072014e-308", LEAST_NORMAL);
        checks.dueDouble("2.2250738585072011e-308", LEAST_NORMAL - 1);
        checks.dueDouble("2.2250738585072012e-308", LEAST_NORMAL);
        checks.dueDouble("0x1p-1074", 1);
        checks.dueDouble("0x1p-1075", 0);
        checks.dueDouble("0x1.00000000000000000000001p-1075", 1);
        checks.dueDouble("0x0.fffffffffffffffffffffffp-1075", 0);
        checks.dueDouble("0x3p-1075", 2);
        checks.dueDouble("0x5p-1075", 2);
        checks.dueDouble("0x1p-1076", 0);
        checks.dueDouble("0x1p-1088", 0);
        checks.dueDouble("0x1p-1089", 0);
        checks.dueDouble("0x1p-1022", LEAST_NORMAL);
        checks.dueDouble("0x0.fffffffffffff8p-1022", LEAST_NORMAL);
        checks.dueDouble("0x0.fffffffffffff7p-1022", LEAST_NORMAL - 1);
        checks.dueDouble("0x0.fffffffffffffp-1022", LEAST_NORMAL - 1);
        String half = new java.math.BigDecimal(2).pow(-1075, new java.math.MathContext(2000)).toPlainString();
        checks.dueDouble(half, 0);
        checks.dueDouble(half + "0".repeat(7000), 0);
        checks.dueDouble(half + "0".repeat(7000) + "1", 1);
        checks.dueDouble(half + "1", 1);
        checks.dueDouble(lessOne(half) + "9".repeat(7000), 0);
    }

    private static void ties(Checks checks) {
        checks.dueDouble("9007199254740993", 0x4340000000000000L);
        checks.dueDouble("9007199254740993.0", 0x4340000000000000L);
        checks.dueDouble("9007199254740993." + "0".repeat(8174) + "1", 0x4340000000000001L);
        checks.dueDouble("9007199254740992." + "9".repeat(8174), 0x4340000000000000L);
        checks.dueDouble("9007199254740995", 0x4340000000000002L);
        checks.dueDouble("9007199254740994." + "9".repeat(8174), 0x4340000000000001L);
        checks.dueDouble("0x1.00000000000008p0", ONE);
        checks.dueDouble("0x1.00000000000018p0", ONE + 2);
        checks.dueDouble("0x1.000000000000080" + "0".repeat(8170) + "1p0", ONE + 1);
        checks.dueDouble("0x1.00000000000007" + "f".repeat(8170) + "p0", ONE);
        checks.dueDouble("0x1.fffffffffffff8p0", ONE + LEAST_NORMAL);
    }

    private static void hexadecimal(Checks checks) {
        checks.dueDouble("0x1p0", ONE);
        checks.dueDouble("0x10p-4", ONE);
        checks.dueDouble("0x.1p4", ONE);
        checks.dueDouble("0x8p-3", ONE);
        checks.dueDouble("0x0.0008p+13", ONE);
        checks.dueDouble("0x1.921fb54442d18p1", 0x400921FB54442D18L);
        checks.dueDouble("0xFEDCBA9876543210p0", Double.doubleToLongBits(0xFEDCBA987654320p4));
        checks.dueDouble("-0xabc.defp-7D", Double.doubleToLongBits(-0xabc.defp-7));
        checks.dueDouble("0x1" + "0".repeat(8181) + "p-32724", ONE);
        checks.dueDouble("0x." + "0".repeat(8181) + "1p32728", ONE);
    }

    private static void longDigits(Checks checks) {
        checks.dueDouble("0".repeat(8191) + "1", ONE);
        checks.dueDouble("1." + "0".repeat(8190), ONE);
        checks.dueDouble("1" + "0".repeat(8185) + "e-8185", ONE);
        checks.dueDouble("." + "0".repeat(8184) + "1e+8185", ONE);
        checks.dueDouble("0." + "9".repeat(8190), ONE);
        checks.dueDouble("0".repeat(8192), 0);
        checks.dueDouble("-." + "0".repeat(8190), MINUS);
        checks.dueDouble("9".repeat(8192), INFINITY);
        checks.dueDouble("9".repeat(309), INFINITY);
        checks.dueDouble("9".repeat(308), Double.doubleToLongBits(1e308));
        checks.dueDouble("." + "0".repeat(8190) + "9", 0);
    }

    private static void longExponents(Checks checks) {
        String nines = "9".repeat(8000);
        checks.dueDouble("1e" + nines, INFINITY);
        checks.dueDouble("-1e+" + nines, MINUS | INFINITY);
        checks.dueDouble("1e-" + nines, 0);
        checks.dueDouble("0e" + nines, 0);
        checks.dueDouble("-0.000e" + nines, MINUS);
        checks.dueDouble("0x1p" + nines, INFINITY);
        checks.dueDouble("-0x1p-" + nines, MINUS);
        checks.dueDouble("0x0p" + nines, 0);
        String[] wraps = {"2147483647", "2147483648", "4294967296", "4294967297", "9223372036854775807",
            "9223372036854775808", "18446744073709551616", "18446744073709551617", "1000000", "999999", "10000000"};
        for (String wrap : wraps) {
            checks.dueDouble("1e" + wrap, INFINITY);
            checks.dueDouble("1e-" + wrap, 0);
            checks.dueDouble("0x1p" + wrap, INFINITY);
            checks.dueDouble("0x1p-" + wrap, 0);
            checks.dueDouble("." + "0".repeat(8000) + "1e" + wrap, INFINITY);
            checks.dueDouble("1" + "0".repeat(8000) + "e-" + wrap, 0);
            checks.dueDouble("0x." + "0".repeat(8000) + "1p" + wrap, INFINITY);
            checks.dueDouble("0x1" + "0".repeat(8000) + "p-" + wrap, 0);
        }
    }

    /** The text of a number, its last digit one less: the digit is none of 0. */
    private static String lessOne(String digits) {
        int last = digits.length() - 1;
        return digits.substring(0, last) + (char) (digits.charAt(last) - 1);
    }
}
