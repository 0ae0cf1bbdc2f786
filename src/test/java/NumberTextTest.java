import java.util.Random;

/** Promises 4 and 5: what is a number text and what is none, and that reading empties the tape. */
public final class NumberTextTest {
    private static final String[] RIGHT = {
        "0", "1", "00012", "1.", "1.5", ".5", "+1", "-1", "+.5", "-1.", "1e5", "1E5", "1e+5", "1e-5", "1.e5",
        ".5e5", "1.5E-05", "1f", "1F", "1d", "1D", "1.f", ".5d", "1e5F", "1.5e-3D", "-.5e+7f", "0e0", "00.00",
        "NaN", "+NaN", "-NaN", "Infinity", "+Infinity", "-Infinity",
        "0x1p0", "0X1P0", "0x1.p1", "0x.8p1", "0x1.8p+1", "0xA.bCp-1", "0xfp3f", "0xdp3d", "0x1p3F", "0x1p3D",
        "-0x1p3", "+0x.1p3", "0x0p0", "0x00p00", "0xabcdefp1", "0xABCDEFp1", "0x1.fp1d", "0xep1", "0x1e5p1",
        " 1", "1 ", "\t1\n", "\0\0001\0", " \r\n 1.5f \u0001\u001f ", " NaN ", " -Infinity\0", " 0x1p1 ",
    };

    private static final String[] WRONG = {
        "", " ", "\0", ".", "+", "-", "+-1", "--1", "++1", "-+1", "+ 1", "- 1", "1 2", "1 f", "1. 5", "1 e5", "1e 5",
        "e5", ".e5", "+e5", "1e", "1e+", "1e-", "1e+-5", "1e5.", "1e5.5", "1e5e5", "1..", "1.5.", "..5", "1.5.2",
        "1ff", "1fd", "1df", "1l", "1L", "1g", "f", "d", ".f", "-f", "1ef", "1fe5", "f1", "1,5", "1_000", "e",
        "nan", "NAN", "Nan", "NaNf", "NaNd", "NaN1", "NaN.", "aN", "Na", "N", "NaN NaN", "+-NaN", "+ NaN",
        "infinity", "INFINITY", "Inf", "inf", "Infinit", "Infinityf", "Infinityd", "InfinityInfinity", "Infinity1",
        "Infinitx", "NaM", "- Infinity", "1Infinity", "1NaN",
        "0x", "0x1", "0x1.8", "0xp1", "0x.p1", "0x1p", "0x1p+", "0x1p-", "0x1p1.", "0x1pa", "0x1pf", "0x1p0x1",
        "0xg.p1", "0x1g1p1", "x1p1", "1x1p1", "00x1p1", "0xx1p1", "0x 1p1", "0x-1p1", "0x+1p1", "0x1p1ff", "0x1e5",
        "0x1.1.1p1", "0x1p1p1", "0x1d", "0x1f", "0x", "0 x1p1", "0x1 p1", "0x1p 1", "0x1p1 d", "1p1", "1.5p1",
        "0x1p--1", "0x1p+-1", "0xNaN", "0xInfinity", "0x.", "0xP1", "0x..1p1", "abcp1", "a", "1a", "1.a", "1ea",
        "!1", "1!", "\"1\"", "1\u007f", "\u007f1", "1\u0080", "\u00801", "1\u00a0", "\u00a01", "1\u00ff", "\u00ff1",
        "\u00b1", "\u00b9", "/1", ":1", "1/", "1:", "0x@p1", "0x`p1", "0xGp1", "1\u00001", "\u0000.\u0000",
    };

    public static void main(String[] args) {
        Checks checks = new Checks();
        for (String text : RIGHT) {
            rightText(checks, text);
        }
        for (String text : WRONG) {
            wrongText(checks, text);
        }
        eachByteAroundADigit(checks);
        longTexts(checks);
        nothingIsLeftOver(checks);
        randomTexts(checks);
        checks.finish();
    }

    private static void rightText(Checks checks, String text) {
        checks.due("right text '" + text + "'", () -> Oracle.ofDouble(text).equals(Checks.UNSUPPORTED) ? 0 : 1, 1);
        bothAsTheOracle(checks, text);
    }

    private static void wrongText(Checks checks, String text) {
        bothAre(checks, text, Checks.UNSUPPORTED, Checks.UNSUPPORTED);
    }

    private static void bothAsTheOracle(Checks checks, String text) {
        bothAre(checks, text, Oracle.ofDouble(text), Oracle.ofFloat(text));
    }

    // An object for each call: a long text alone takes most of the 512 calls of one.
    private static void bothAre(Checks checks, String text, String wantDouble, String wantFloat) {
        DecimalReader first = Checks.readerOf(text);
        checks.due("parse of '" + text + "'", first::parse, wantDouble);
        checks.dueEmpty("parse of '" + text + "'", first);
        Checks.put(first, "2.5");
        checks.due("parse behind '" + text + "'", first::parse, Double.doubleToLongBits(2.5));
        DecimalReader second = Checks.readerOf(text);
        checks.due("parseFloat of '" + text + "'", second::parseFloat, wantFloat);
        checks.dueEmpty("parseFloat of '" + text + "'", second);
        Checks.put(second, "2.5");
        checks.due("parseFloat behind '" + text + "'", second::parseFloat, Float.floatToIntBits(2.5f));
    }

    private static void eachByteAroundADigit(Checks checks) {
        for (int b = 0; b < 256; b++) {
            String one = String.valueOf((char) b);
            String[] texts = {one, one + "1", "1" + one, "1" + one + "1", "0x" + one + "p1", "0x1" + one + "1",
                "0" + one + "1p1", "1." + one, "1e" + one, "1e1" + one, "0x1p1" + one};
            for (String text : texts) {
                checks.due("parse, byte " + b + " in '" + text + "'", Checks.readerOf(text)::parse,
                    Oracle.ofDouble(text));
                checks.due("parseFloat, byte " + b + " in '" + text + "'", Checks.readerOf(text)::parseFloat,
                    Oracle.ofFloat(text));
            }
        }
    }

    private static void longTexts(Checks checks) {
        bothAsTheOracle(checks, " ".repeat(8191) + "1");
        bothAsTheOracle(checks, "1" + "\0".repeat(8191));
        bothAsTheOracle(checks, " ".repeat(4000) + "-NaN" + " ".repeat(4188));
        bothAsTheOracle(checks, "1e" + "0".repeat(8188) + "17");
        bothAsTheOracle(checks, "0x1p-" + "0".repeat(8185) + "17");
        wrongText(checks, " ".repeat(8192));
        wrongText(checks, "1" + " ".repeat(8190) + "1");
        wrongText(checks, "1".repeat(8191) + "e");
        wrongText(checks, "0x" + "1".repeat(8190));
        wrongText(checks, ".".repeat(8192));
    }

    private static void nothingIsLeftOver(Checks checks) {
        DecimalReader reader = new DecimalReader();
        String[] texts = {"-Infinity", "1", "NaN", "2", "-3e300", "4", "1e999", "5", "0x1p-2000", "6", "1.5e-7", "7",
            "0x1.8p4", "8", "-0", "0", "1e-999", "9", "1e0000005", "10", "0x1p5", "11.5", ".25", "12"};
        for (String text : texts) {
            Checks.put(reader, text);
            checks.due("parse of '" + text + "' in a row", reader::parse, Oracle.ofDouble(text));
            Checks.put(reader, text);
            checks.due("parseFloat of '" + text + "' in a row", reader::parseFloat, Oracle.ofFloat(text));
        }
    }

    private static void randomTexts(Checks checks) {
        Random random = new Random(4);
        String[] parts = {"0", "1", "7", "9", "00", ".", "e", "E", "+", "-", "0x", "0X", "a", "F", "f", "d", "D", "p", "P",
            "p1", "e2", " ", "\0", "NaN", "Infinity", "12", ".5", "\u00ff"};
        for (int i = 0; i < 200000; i++) {
            StringBuilder text = new StringBuilder();
            int count = random.nextInt(7);
            for (int k = 0; k < count; k++) {
                text.append(parts[random.nextInt(parts.length)]);
            }
            String whole = text.toString();
            checks.due("parse of '" + whole + "'", Checks.readerOf(whole)::parse, Oracle.ofDouble(whole));
            checks.due("parseFloat of '" + whole + "'", Checks.readerOf(whole)::parseFloat, Oracle.ofFloat(whole));
        }
    }
}
