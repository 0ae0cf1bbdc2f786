/** Promise 3: end. */
public final class EndTest {
    public static void main(String[] args) {
        Checks checks = new Checks();
        keepsTheFirst(checks);
        outOfRange(checks);
        atTheLimit(checks);
        cutBytesStayAway(checks);
        checks.finish();
    }

    private static void keepsTheFirst(Checks checks) {
        DecimalReader reader = Checks.readerOf("12345678901234567890");
        checks.due("end at the length", () -> reader.end(20), 20);
        checks.due("end(7)", () -> reader.end(7), 7);
        checks.due("end(7) again", () -> reader.end(7), 7);
        checks.due("end(3)", () -> reader.end(3), 3);
        checks.due("the first three", reader::parse, Double.doubleToLongBits(123));
        Checks.put(reader, "12345");
        checks.due("end(0)", () -> reader.end(0), 0);
        checks.due("nothing is left", reader::parse, Checks.UNSUPPORTED);
    }

    private static void outOfRange(Checks checks) {
        DecimalReader reader = Checks.readerOf("98765");
        int[] wrong = {-1, 6, 20, 8192, 8193, Integer.MIN_VALUE, Integer.MAX_VALUE, -5};
        for (int n : wrong) {
            checks.due("end(" + n + ") of five", () -> reader.end(n), Checks.ILLEGAL);
        }
        checks.due("the tape stays", reader::parse, Double.doubleToLongBits(98765));
        checks.due("end(1) of a read tape", () -> reader.end(1), Checks.ILLEGAL);
        checks.due("end(0) of a read tape", () -> reader.end(0), 0);
    }

    private static void atTheLimit(Checks checks) {
        DecimalReader reader = Checks.readerOf("4".repeat(8192));
        checks.due("end(8193)", () -> reader.end(8193), Checks.ILLEGAL);
        checks.due("end(8192)", () -> reader.end(8192), 8192);
        checks.due("end(1)", () -> reader.end(1), 1);
        checks.due("one byte", reader::parseFloat, Float.floatToIntBits(4));
    }

    private static void cutBytesStayAway(Checks checks) {
        DecimalReader reader = Checks.readerOf("12345678901234567890");
        reader.end(2);
        checks.due("a cut is no blank", () -> reader.end(3), Checks.ILLEGAL);
        reader.feed(0x35000000, 0, 0, 0, 0);
        checks.due("feed goes on behind the cut", reader::parse, Double.doubleToLongBits(125));
    }
}
