/** Promise 2: feed. */
public final class FeedTest {
    private static final int ONES = 0x31313131;

    public static void main(String[] args) {
        Checks checks = new Checks();
        lengths(checks);
        orderOfBytes(checks);
        highBytes(checks);
        behindAnEnd(checks);
        fullByTwenties(checks);
        fullToTheLastByte(checks);
        checks.finish();
    }

    private static void lengths(Checks checks) {
        DecimalReader reader = new DecimalReader();
        for (int i = 1; i <= 5; i++) {
            checks.due("feed " + i, () -> reader.feed(ONES, ONES, ONES, ONES, ONES), 20 * i);
        }
        reader.parse();
        checks.due("feed behind parse", () -> reader.feed(ONES, ONES, ONES, ONES, ONES), 20);
    }

    private static void orderOfBytes(Checks checks) {
        DecimalReader reader = new DecimalReader();
        // "1234" "5678" "9012" "34e-" "0015"
        reader.feed(0x31323334, 0x35363738, 0x39303132, 0x3334652D, 0x30303135);
        checks.due("20 bytes in order", reader::parse, Double.doubleToLongBits(12345678901234e-15));
        reader.feed(0x31323334, 0x35363738, 0x39303132, 0x33343536, 0x37383930);
        reader.feed(0x2E353030, 0, 0, 0, 0);
        checks.due("40 bytes in order", reader::parse, Double.doubleToLongBits(12345678901234567890.5));
    }

    private static void highBytes(Checks checks) {
        DecimalReader reader = new DecimalReader();
        checks.due("bytes from 128 on", () -> reader.feed(-1, -1, 0x80808080, 0xB1B1B1B1, Integer.MIN_VALUE), 20);
        checks.due("bytes from 128 on are no number", reader::parse, Checks.UNSUPPORTED);
    }

    private static void behindAnEnd(Checks checks) {
        DecimalReader reader = Checks.readerOf("17");
        checks.due("feed behind end", () -> reader.feed(0x2E350000, 0, 0, 0, 0), 22);
        checks.due("what stands there", reader::parse, Double.doubleToLongBits(17.5));
    }

    private static void fullByTwenties(Checks checks) {
        DecimalReader reader = new DecimalReader();
        reader.feed(0x302E3131, ONES, ONES, ONES, ONES);
        for (int i = 2; i <= 409; i++) {
            checks.due("feed " + i, () -> reader.feed(ONES, ONES, ONES, ONES, ONES), 20 * i);
        }
        for (int i = 0; i < 3; i++) {
            checks.due("feed 410", () -> reader.feed(-1, -1, -1, -1, -1), Checks.OUT_OF_BOUNDS);
        }
        checks.due("the length stays", () -> reader.end(8181), Checks.ILLEGAL);
        checks.due("the length stays", () -> reader.end(8180), 8180);
        checks.due("the bytes stay", reader::parse, Double.doubleToLongBits(1.0 / 9));
        checks.due("feed anew", () -> reader.feed(ONES, ONES, ONES, ONES, ONES), 20);
    }

    private static void fullToTheLastByte(Checks checks) {
        DecimalReader reader = Checks.readerOf("0." + "1".repeat(8190));
        checks.due("feed at 8192", () -> reader.feed(0, 0, 0, 0, 0), Checks.OUT_OF_BOUNDS);
        checks.due("end(8192)", () -> reader.end(8192), 8192);
        checks.due("end(8173)", () -> reader.end(8173), 8173);
        checks.due("feed at 8173", () -> reader.feed(-1, -1, -1, -1, -1), Checks.OUT_OF_BOUNDS);
        checks.due("end(8173) once more", () -> reader.end(8173), 8173);
        checks.due("end(8172)", () -> reader.end(8172), 8172);
        checks.due("feed at 8172", () -> reader.feed(ONES, ONES, ONES, ONES, ONES), 8192);
        checks.due("8192 bytes", reader::parse, Double.doubleToLongBits(1.0 / 9));
    }
}
