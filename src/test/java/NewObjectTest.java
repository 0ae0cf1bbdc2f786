/** Promise 1: the tape of a new object is empty. */
public final class NewObjectTest {
    public static void main(String[] args) {
        Checks checks = new Checks();
        checks.due("end(0)", () -> new DecimalReader().end(0), 0);
        checks.due("end(1)", () -> new DecimalReader().end(1), Checks.ILLEGAL);
        checks.due("end(8192)", () -> new DecimalReader().end(8192), Checks.ILLEGAL);
        checks.due("parse()", () -> new DecimalReader().parse(), Checks.UNSUPPORTED);
        checks.due("parseFloat()", () -> new DecimalReader().parseFloat(), Checks.UNSUPPORTED);
        checks.due("feed", () -> new DecimalReader().feed(0, 0, 0, 0, 0), 20);
        twoObjects(checks);
        checks.finish();
    }

    private static void twoObjects(Checks checks) {
        DecimalReader first = Checks.readerOf("12");
        DecimalReader second = new DecimalReader();
        checks.due("end(1) beside a full tape", () -> second.end(1), Checks.ILLEGAL);
        Checks.put(second, "7");
        checks.due("the first of two", first::parse, Double.doubleToLongBits(12));
        checks.due("the second of two", second::parse, Double.doubleToLongBits(7));
    }
}
