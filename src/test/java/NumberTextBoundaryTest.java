/** The sentences on NUMBER TEXT, parse and parseFloat that name a boundary case: a test for each. */
public final class NumberTextBoundaryTest {
    private static final double ENDLESS = Double.POSITIVE_INFINITY;
    private static final float ENDLESS_FLOAT = Float.POSITIVE_INFINITY;

    private final Checks checks = new Checks();

    public static void main(String[] args) {
        NumberTextBoundaryTest test = new NumberTextBoundaryTest();
        test.blanksAtBothEnds();
        test.oneSignOrNone();
        test.namesInFull();
        test.oneLetterBehindOrNone();
        test.decimalDigits();
        test.decimalExponent();
        test.hexDigits();
        test.hexExponent();
        test.exponentsBeyondInts();
        test.signStays();
        test.nanHasNoSign();
        test.anyNumberOfDigits();
        test.readingsInARow();
        test.parseElseThrows();
        test.parseFloatLikewise();
        test.checks.finish();
    }

    private void number(String text, double want) {
        checks.dueNumber(text, want, (float) want);
    }

    private void refused(String... texts) {
        for (String text : texts) {
            checks.dueRefused(text);
        }
    }

    private void blanksAtBothEnds() {
        checks.sentence("blanks (bytes 0 .. 32) at both ends don't count");
        for (int b = 0; b <= 255; b++) {
            String one = String.valueOf((char) b);
            if (b <= 32) {
                number(one + "5", 5);
                number("5" + one, 5);
                number(one + one + "-0x1p1" + one, -2);
                number(one + "Infinity" + one, ENDLESS);
                number(one + "NaN" + one, Double.NaN);
                refused(one, one + one, "5" + one + "5", "-" + one + "5", "5" + one + "f", "5e" + one + "5");
            } else if ("0123456789+-.".indexOf(b) < 0) {
                refused(one + "5");
            }
            if (b > 32 && "0123456789.fFdD".indexOf(b) < 0) {
                refused("5" + one);
            }
        }
        number(" ".repeat(8191) + "5", 5);
        number("5" + "\0".repeat(8191), 5);
        refused(" ".repeat(8192), "5" + " ".repeat(8190) + "5");
    }

    private void oneSignOrNone() {
        checks.sentence("[ + | - ] ( NaN | Infinity | DECIMAL | HEX )");
        for (String body : new String[] {"NaN", "Infinity", "5", ".5", "0x5p0", "0x.5p0"}) {
            double size = body.equals("NaN") ? Double.NaN : body.equals("Infinity") ? ENDLESS
                : body.indexOf('.') < 0 ? 5 : body.equals(".5") ? 0.5 : 5.0 / 16;
            number(body, size);
            number("+" + body, size);
            number("-" + body, -size);
            refused("++" + body, "--" + body, "+-" + body, "-+" + body, "- " + body, "+ " + body, body + "+",
                body + "-");
        }
        refused("", "+", "-", " + ", "+-");
    }

    private void namesInFull() {
        checks.sentence("NaN | Infinity");
        refused("N", "Na", "aN", "NaNN", "NaNaN", "nan", "NAN", "Nan", "naN", "NaN0", "0NaN", "NaNe1");
        refused("I", "Inf", "Infinit", "nfinity", "Infinityy", "infinity", "INFINITY", "InfinitY", "Infinity0",
            "0Infinity", "Infinitye1", "InfinityNaN");
    }

    private void oneLetterBehindOrNone() {
        checks.sentence("(DECIMAL, HEX with one of f, F, d, D behind, or none)");
        for (String letter : new String[] {"", "f", "F", "d", "D"}) {
            number("5" + letter, 5);
            number("5." + letter, 5);
            number(".5" + letter, 0.5);
            number("5e1" + letter, 50);
            number("0x5p1" + letter, 10);
            number("0xfp1" + letter, 30);
        }
        for (String letter : new String[] {"f", "F", "d", "D"}) {
            refused(letter, "-" + letter, "." + letter, "5" + letter + letter, "5" + letter + "0", "5 " + letter,
                "0x5p1" + letter + letter, "0x5" + letter, "0x5p" + letter, "5e" + letter, "NaN" + letter,
                "Infinity" + letter, "-Infinity" + letter);
        }
        refused("5l", "5L", "5g", "5h", "5fd", "5Df", "5b", "5c", "5G", "5C");
        // The letter does not choose the kind.
        checks.dueNumber("0.1f", 0.1, 0.1f);
        checks.dueNumber("0.1d", 0.1, 0.1f);
    }

    private void decimalDigits() {
        checks.sentence("DECIMAL: digits [ . [digits] ] or . digits");
        number("0", 0);
        number("9", 9);
        number("09", 9);
        number("9.", 9);
        number("9.0", 9);
        number(".9", 0.9);
        refused(".", "+.", "-.", " . ", "..", "9..", ".9.", "..9", "9.9.9", ".f", "/", ":", "9/", "9:", "a", "9a");
    }

    private void decimalExponent() {
        checks.sentence("[ (e | E) [ + | - ] digits ]");
        for (String letter : new String[] {"e", "E"}) {
            number("5" + letter + "2", 500);
            number("5." + letter + "+2", 500);
            number(".5" + letter + "-2", 0.005);
            number("5" + letter + "0", 5);
            number("5" + letter + "-0", 5);
            number("5" + letter + "0002", 500);
            refused(letter, letter + "2", "." + letter + "2", "5" + letter, "5" + letter + "+", "5" + letter + "-",
                "5" + letter + "++2", "5" + letter + "2.", "5" + letter + ".2", "5" + letter + "2" + letter + "2",
                "5" + letter + " 2", "5 " + letter + "2", "5" + letter + "a", "5" + letter + "0x2");
        }
        refused("5p2", "5P2");
    }

    private void hexDigits() {
        checks.sentence("HEX: 0 (x | X) with hexadecimal digits [ . [digits] ] or . digits, one at least");
        number("0x0p0", 0);
        number("0X9p0", 9);
        number("0xap0", 10);
        number("0xFp0", 15);
        number("0xf.p0", 15);
        number("0x.fp0", 15.0 / 16);
        number("0xa.fp0", 10 + 15.0 / 16);
        refused("0xp0", "0Xp0", "0x.p0", "0x", "0X", "0x.", "0xgp0", "0xGp0", "0x@p0", "0x`p0", "0x/p0", "0x:p0",
            "0x..1p0", "0x1..p0", "0x1.1.p0", "x1p0", "1x1p0", "00x1p0", "0 x1p0", "0xx1p0", "0x0x1p0", "0x-1p0",
            ".0x1p0");
    }

    private void hexExponent() {
        checks.sentence("(p | P) [ + | - ] decimal digits: a power of two");
        for (String letter : new String[] {"p", "P"}) {
            number("0x5" + letter + "2", 20);
            number("0x5." + letter + "+2", 20);
            number("0x.5" + letter + "-2", 5.0 / 64);
            number("0x5" + letter + "10", 5120);
            number("0x5" + letter + "-0", 5);
            refused("0x5" + letter, "0x5" + letter + "+", "0x5" + letter + "-", "0x5" + letter + "a",
                "0x5" + letter + "1a", "0x5" + letter + "1.", "0x5" + letter + "+-1", "0x5" + letter + " 1",
                "0x5" + letter + "1" + letter + "1");
        }
        refused("0x5", "0x5.", "0x5.5", "0x.5", "0x5e2", "0x5f", "0x5d");
    }

    private void exponentsBeyondInts() {
        checks.sentence("It ROUNDS to what it says");
        String[] wraps = {"32768", "65536", "1000000", "10000000", "2147483647", "2147483648", "4294967295",
            "4294967296", "4294967297", "9223372036854775807", "9223372036854775808", "18446744073709551615",
            "18446744073709551616", "18446744073709551617", "9".repeat(8000), "1" + "0".repeat(8000)};
        for (String wrap : wraps) {
            checks.dueNumber("1e" + wrap, ENDLESS, ENDLESS_FLOAT);
            checks.dueNumber("-0x1p+" + wrap, -ENDLESS, -ENDLESS_FLOAT);
            checks.dueNumber("1e-" + wrap, 0, 0);
            checks.dueNumber("-0x1p-" + wrap, -0.0, -0.0f);
            checks.dueNumber("0e" + wrap, 0, 0);
            checks.dueNumber("-0x0p" + wrap, -0.0, -0.0f);
        }
        // Not even 8000 digits that pull the other way bring these back.
        String zeros = "0".repeat(8000);
        for (String power : new String[] {"100000", "1000000", "10000000", "4294967296", "18446744073709551616"}) {
            checks.dueNumber("0." + zeros + "1e" + power, ENDLESS, ENDLESS_FLOAT);
            checks.dueNumber("0x." + zeros + "1p" + power, ENDLESS, ENDLESS_FLOAT);
            checks.dueNumber("1" + zeros + "e-" + power, 0, 0);
            checks.dueNumber("0x1" + zeros + "p-" + power, 0, 0);
        }
        number("1e" + "0".repeat(8189) + "1", 10);
        number("0x1p-" + "0".repeat(8186) + "1", 0.5);
    }

    private void signStays() {
        checks.sentence("the sign stays, of 0, too");
        for (String zero : new String[] {"0", "0.", ".0", "00.00e5", "0e-999999", "0x0p0", "0x.0p99999", "1e-5000",
            "0x1p-5000", "0d", "0f"}) {
            checks.dueNumber("-" + zero, -0.0, -0.0f);
            checks.dueNumber("+" + zero, 0.0, 0.0f);
            checks.dueNumber(zero, 0.0, 0.0f);
        }
        for (String endless : new String[] {"Infinity", "1e5000", "0x1p5000"}) {
            checks.dueNumber("-" + endless, -ENDLESS, -ENDLESS_FLOAT);
            checks.dueNumber("+" + endless, ENDLESS, ENDLESS_FLOAT);
        }
        number("-5", -5);
    }

    private void nanHasNoSign() {
        checks.sentence("All NaN are one, answered as exponent all ones, the highest bit of the fraction, no sign.");
        for (String nan : new String[] {"NaN", "+NaN", "-NaN", " -NaN "}) {
            checks.dueBoth(nan, Long.toString(0x7FF8000000000000L), Integer.toString(0x7FC00000));
        }
    }

    private void anyNumberOfDigits() {
        checks.sentence("any number of digits counts");
        checks.dueNumber("1".repeat(8192), ENDLESS, ENDLESS_FLOAT);
        number("0".repeat(8191) + "5", 5);
        number("5." + "0".repeat(8190), 5);
        number("." + "0".repeat(8191), 0);
        number("5" + "0".repeat(8185) + "e-8185", 5);
        number("." + "0".repeat(8185) + "5e8186", 5);
        number("0x5" + "0".repeat(8182) + "p-32728", 5);
        number("0x." + "0".repeat(8181) + "5p32728", 5);
        // 1 and half a step of each kind, and a last digit that decides.
        String halfDouble = "1.00000000000000011102230246251565404236316680908203125";
        String halfFloat = "1.000000059604644775390625";
        checks.dueDouble(filled(halfDouble, "0"), 0x3FF0000000000000L);
        checks.dueDouble(filled(halfDouble, "1"), 0x3FF0000000000001L);
        checks.dueFloat(filled(halfFloat, "0"), 0x3F800000);
        checks.dueFloat(filled(halfFloat, "1"), 0x3F800001);
        checks.dueDouble("0x1.00000000000008" + "0".repeat(8171) + "1p0", 0x3FF0000000000001L);
        checks.dueDouble("0x1.00000000000008" + "0".repeat(8172) + "p0", 0x3FF0000000000000L);
        checks.dueFloat("0x1.000001" + "0".repeat(8179) + "1p0", 0x3F800001);
        checks.dueFloat("0x1.000001" + "0".repeat(8180) + "p0", 0x3F800000);
    }

    /** The digits made longer, with zeros and then the last one, to 8192 bytes. */
    private static String filled(String digits, String last) {
        return digits + "0".repeat(8191 - digits.length()) + last;
    }

    /** Too large, too small, in full, a name: none of them colours the next answer of the same object. */
    private void readingsInARow() {
        checks.sentence("their exact value, rounded once");
        DecimalReader reader = new DecimalReader();
        String[] before = {"1e999", "0x1p9999", "1e-9999", "0x1p-9999", "-Infinity", "-NaN", "-1.5e-7", "0x1.8p4",
            "9".repeat(400), "1x", "-", "1e5x"};
        for (String text : before) {
            Checks.put(reader, text);
            Checks.outcome(reader::parse);
            Checks.put(reader, "9007199254740993");
            checks.due("a tie behind '" + text + "'", reader::parse, 0x4340000000000000L);
            Checks.put(reader, text);
            Checks.outcome(reader::parseFloat);
            Checks.put(reader, "0x1000001p0");
            checks.due("a tie behind '" + text + "'", reader::parseFloat, 0x4B800000);
        }
    }

    private void parseElseThrows() {
        checks.sentence("The TAPE is a NUMBER TEXT, else UnsupportedOperationException. Answers the DOUBLE.");
        checks.due("an empty tape", () -> new DecimalReader().parse(), Checks.UNSUPPORTED);
        checks.dueDouble("0.1", 0x3FB999999999999AL);
        checks.due("a text that is none", Checks.readerOf("0.1.")::parse, Checks.UNSUPPORTED);
        DecimalReader reader = Checks.readerOf("none");
        checks.due("refused", reader::parse, Checks.UNSUPPORTED);
        Checks.put(reader, "0.1");
        checks.due("behind a refused one", reader::parse, 0x3FB999999999999AL);
        checks.due("read twice", reader::parse, Checks.UNSUPPORTED);
        checks.due("a full tape", Checks.readerOf("1".repeat(8191) + "-")::parse, Checks.UNSUPPORTED);
    }

    private void parseFloatLikewise() {
        checks.sentence("Likewise the FLOAT.");
        checks.due("an empty tape", () -> new DecimalReader().parseFloat(), Checks.UNSUPPORTED);
        checks.dueFloat("0.1", 0x3DCCCCCD);
        checks.due("a text that is none", Checks.readerOf("0.1.")::parseFloat, Checks.UNSUPPORTED);
        DecimalReader reader = Checks.readerOf("none");
        checks.due("refused", reader::parseFloat, Checks.UNSUPPORTED);
        Checks.put(reader, "0.1");
        checks.due("behind a refused one", reader::parseFloat, 0x3DCCCCCD);
        checks.due("read twice", reader::parseFloat, Checks.UNSUPPORTED);
        checks.due("a full tape", Checks.readerOf("1".repeat(8191) + "-")::parseFloat, Checks.UNSUPPORTED);
        // Rounded to a double first, it would be a tie and go down to 1.
        checks.dueFloat("0x1.00000100000000001p0", 0x3F800001);
        checks.dueFloat("-1", 0xBF800000);
    }
}
