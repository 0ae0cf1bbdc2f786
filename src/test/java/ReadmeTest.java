import java.nio.charset.StandardCharsets;

/** What README.md shows, call by call. */
public final class ReadmeTest {
    private final Checks checks = new Checks();

    public static void main(String[] args) {
        ReadmeTest test = new ReadmeTest();
        test.firstExample();
        test.longTexts();
        test.fullTape();
        test.examplesOfTexts();
        test.checks.finish();
    }

    private void firstExample() {
        DecimalReader reader = new DecimalReader();
        checks.due("feed", () -> reader.feed(0x2D302E31, 0x65330000, 0, 0, 0), 20);
        checks.due("end(6)", () -> reader.end(6), 6);
        checks.due("parse", reader::parse, 0xC059000000000000L);
        checks.due("-100.0", () -> Double.doubleToLongBits(-100.0), 0xC059000000000000L);
        checks.due("feed", () -> reader.feed(0x30782E38, 0x70310000, 0, 0, 0), 20);
        checks.due("parseFloat", reader::parseFloat, 0x3F800000);
        checks.due("1.0f", () -> Float.floatToIntBits(1.0f), 0x3F800000);
    }

    /** As README.md has it. */
    private static void put(DecimalReader reader, byte[] text) {
        for (int from = 0; from < text.length; from += 20) {
            int[] five = new int[5];
            for (int i = 0; i < 20; i++) {
                int b = from + i < text.length ? text[from + i] & 255 : 0;
                five[i / 4] = five[i / 4] << 8 | b;
            }
            reader.feed(five[0], five[1], five[2], five[3], five[4]);
        }
    }

    private static byte[] bytesOf(String text) {
        return text.getBytes(StandardCharsets.ISO_8859_1);
    }

    private void longTexts() {
        for (int length : new int[] {1, 19, 20, 21, 39, 40, 41, 8179, 8180}) {
            byte[] text = bytesOf("0".repeat(length - 1) + "7");
            DecimalReader left = new DecimalReader();
            put(left, text);
            checks.due(length + " bytes, blanks left behind", left::parse, Double.doubleToLongBits(7));
            DecimalReader cut = new DecimalReader();
            put(cut, text);
            checks.due("end(" + length + ")", () -> cut.end(length), length);
            checks.due(length + " bytes", cut::parseFloat, Float.floatToIntBits(7));
        }
        byte[] longer = bytesOf("0".repeat(8181));
        checks.due("8181 bytes do not fit so", () -> {
            put(new DecimalReader(), longer);
            return 0;
        }, Checks.OUT_OF_BOUNDS);
    }

    private void fullTape() {
        byte[] text = bytesOf("0".repeat(8191) + "7");
        DecimalReader reader = new DecimalReader();
        put(reader, java.util.Arrays.copyOf(text, 12));
        checks.due("the odd piece", () -> reader.end(12), 12);
        put(reader, java.util.Arrays.copyOfRange(text, 12, 8192));
        checks.due("8192 bytes", () -> reader.end(8192), 8192);
        checks.due("8192 digits", reader::parse, Double.doubleToLongBits(7));
    }

    private void examplesOfTexts() {
        checks.dueNumber("12", 12, 12);
        checks.dueNumber("1.", 1, 1);
        checks.dueNumber(".5", 0.5, 0.5f);
        checks.dueNumber("1.5e-3", 0.0015, 0.0015f);
        checks.dueNumber("7E+2f", 700, 700);
        checks.dueNumber("0x1p0", 1, 1);
        checks.dueNumber("0X.8P-3", 0.0625, 0.0625f);
        checks.dueNumber("0xA.bp+1d", 21.375, 21.375f);
        checks.dueNumber("Infinity", Double.POSITIVE_INFINITY, Float.POSITIVE_INFINITY);
        checks.dueBoth("NaN", Long.toString(0x7FF8000000000000L), Integer.toString(0x7FC00000));
    }
}
