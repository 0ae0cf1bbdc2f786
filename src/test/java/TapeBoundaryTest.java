/** The sentences on the object, its tape, feed and end that name a boundary case: a test for each. */
public final class TapeBoundaryTest {
    private static final int ONES = 0x31313131;
    private static final int NINES = 0x39393939;

    private final Checks checks = new Checks();

    public static void main(String[] args) {
        TapeBoundaryTest test = new TapeBoundaryTest();
        test.last512thCall();
        test.atMost8192Bytes();
        test.readingLeavesTheTapeEmpty();
        test.readingThatThrowsLeavesTheTapeEmpty();
        test.numberOutOfRange();
        test.throwingChangesNothing();
        test.newTapeIsEmpty();
        test.highestByteFirst();
        test.feedBeyondTheLimit();
        test.feedAnswersTheLength();
        test.endWithinTheLength();
        test.endAnswersN();
        test.checks.finish();
    }

    private static int feedOnes(DecimalReader reader) {
        return reader.feed(ONES, ONES, ONES, ONES, ONES);
    }

    private static int feedNines(DecimalReader reader) {
        return reader.feed(NINES, NINES, NINES, NINES, NINES);
    }

    /** A tape of ones, 8192 at most, and the object has been called 411 times at most. */
    private static DecimalReader ones(int length) {
        return Checks.readerOf("1".repeat(length));
    }

    private void lengthIs(String what, DecimalReader reader, int length) {
        checks.due(what + ": no byte more", () -> reader.end(length + 1), Checks.ILLEGAL);
        checks.due(what + ": no byte less", () -> reader.end(length), length);
    }

    private void last512thCall() {
        checks.sentence("An object is used for at most 512 calls after it has been made");
        DecimalReader reader = new DecimalReader();
        for (int call = 1; call <= 408; call += 3) {
            reader.feed(0x2D310000, 0, 0, 0, 0);
            reader.end(2);
            checks.due("call " + (call + 2), reader::parse, Double.doubleToLongBits(-1));
        }
        for (int call = 409; call <= 510; call++) {
            int length = 20 * (call - 408);
            checks.due("call " + call, () -> feedOnes(reader), length);
        }
        checks.due("call 511", () -> reader.end(3), 3);
        checks.due("call 512", reader::parseFloat, Float.floatToIntBits(111));
        DecimalReader refused = new DecimalReader();
        for (int call = 1; call <= 511; call++) {
            checks.due("call " + call, refused::parse, Checks.UNSUPPORTED);
        }
        checks.due("call 512 behind refused ones", () -> feedOnes(refused), 20);
    }

    private void atMost8192Bytes() {
        checks.sentence("THE TAPE has at most 8192 bytes.");
        DecimalReader reader = ones(8172);
        checks.due("the last 20 bytes", () -> feedOnes(reader), 8192);
        checks.due("20 bytes more", () -> feedOnes(reader), Checks.OUT_OF_BOUNDS);
        lengthIs("a full tape", reader, 8192);
        checks.due("8192 digits", reader::parse, Double.doubleToLongBits(Double.POSITIVE_INFINITY));
        DecimalReader last = Checks.readerOf(" ".repeat(8191) + "7");
        checks.due("byte 8192 counts", last::parse, Double.doubleToLongBits(7));
    }

    private void readingLeavesTheTapeEmpty() {
        checks.sentence("A call that reads it leaves it empty");
        String[] texts = {"1", "-0", "NaN", "-Infinity", "0x1p0", "1e99999", "1e-99999", " 1 ", "1".repeat(8192)};
        for (String text : texts) {
            DecimalReader first = Checks.readerOf(text);
            first.parse();
            emptyNow("parse of '" + text + "'", first);
            DecimalReader second = Checks.readerOf(text);
            second.parseFloat();
            emptyNow("parseFloat of '" + text + "'", second);
        }
    }

    private void readingThatThrowsLeavesTheTapeEmpty() {
        checks.sentence("leaves it empty, also if it throws.");
        String[] texts = {"", "x", "1x", "1e", "0x1", "NaNf", " ", "- 1", "1".repeat(8191) + "x"};
        for (String text : texts) {
            DecimalReader first = Checks.readerOf(text);
            checks.due("parse of '" + text + "'", first::parse, Checks.UNSUPPORTED);
            emptyNow("parse of '" + text + "'", first);
            DecimalReader second = Checks.readerOf(text);
            checks.due("parseFloat of '" + text + "'", second::parseFloat, Checks.UNSUPPORTED);
            emptyNow("parseFloat of '" + text + "'", second);
        }
    }

    private void emptyNow(String what, DecimalReader reader) {
        lengthIs("behind " + what, reader, 0);
        checks.due("parse behind " + what, reader::parse, Checks.UNSUPPORTED);
        checks.due("parseFloat behind " + what, reader::parseFloat, Checks.UNSUPPORTED);
        checks.due("feed behind " + what, () -> feedNines(reader), 20);
        reader.end(1);
        checks.due("the only byte behind " + what, reader::parse, Double.doubleToLongBits(9));
    }

    private void numberOutOfRange() {
        checks.sentence("IllegalArgumentException: a number out of range");
        for (int length : new int[] {0, 1, 19, 20, 8191, 8192}) {
            DecimalReader reader = ones(length);
            int[] wrong = {-1, length + 1, -length - 1, 8193, 65536 + length, Integer.MIN_VALUE,
                Integer.MIN_VALUE + length, Integer.MAX_VALUE};
            for (int n : wrong) {
                checks.due("end(" + n + ") of " + length, () -> reader.end(n), Checks.ILLEGAL);
            }
        }
    }

    private void throwingChangesNothing() {
        checks.sentence("A call that throws changes nothing, but as said.");
        DecimalReader reader = Checks.readerOf("98765");
        for (int n : new int[] {-1, 6, Integer.MIN_VALUE, Integer.MAX_VALUE}) {
            checks.due("end(" + n + ")", () -> reader.end(n), Checks.ILLEGAL);
            lengthIs("behind end(" + n + ")", reader, 5);
        }
        checks.due("the bytes behind a refused end", reader::parse, Double.doubleToLongBits(98765));
        DecimalReader full = Checks.readerOf("0." + "1".repeat(8171));
        checks.due("feed at 8173", () -> feedNines(full), Checks.OUT_OF_BOUNDS);
        lengthIs("behind a refused feed", full, 8173);
        checks.due("the bytes behind a refused feed", full::parse, Double.doubleToLongBits(1.0 / 9));
        DecimalReader cut = ones(8192);
        cut.end(8180);
        checks.due("feed at 8180", () -> cut.feed(0, 0, 0, 0, 0), Checks.OUT_OF_BOUNDS);
        cut.end(2);
        checks.due("the first bytes behind a refused feed", cut::parse, Double.doubleToLongBits(11));
    }

    private void newTapeIsEmpty() {
        checks.sentence("DecimalReader(): THE TAPE is empty.");
        lengthIs("a new object", new DecimalReader(), 0);
        checks.due("parse", () -> new DecimalReader().parse(), Checks.UNSUPPORTED);
        checks.due("parseFloat", () -> new DecimalReader().parseFloat(), Checks.UNSUPPORTED);
        checks.due("the first feed", () -> feedOnes(new DecimalReader()), 20);
        DecimalReader used = ones(8192);
        lengthIs("a new object beside a full one", new DecimalReader(), 0);
        checks.due("the full one", () -> used.end(8192), 8192);
    }

    private void highestByteFirst() {
        checks.sentence("The 20 bytes of five ints, the highest of each first, come to the TAPE");
        DecimalReader reader = new DecimalReader();
        // "-123" "4567" "8901" ".234" "5e-2"
        reader.feed(0x2D313233, 0x34353637, 0x38393031, 0x2E323334, 0x35652D32);
        checks.due("20 bytes", reader::parse, Double.doubleToLongBits(-12345678901.2345e-2));
        for (int i = 0; i < 20; i++) {
            int[] five = new int[5];
            five[i / 4] = 0x31 << 24 - 8 * (i % 4);
            reader.feed(five[0], five[1], five[2], five[3], five[4]);
            reader.end(i + 1);
            checks.due("byte " + i + " is in the first " + (i + 1), reader::parse, Double.doubleToLongBits(1));
            reader.feed(five[0], five[1], five[2], five[3], five[4]);
            reader.end(i);
            checks.due("byte " + i + " is not in the first " + i, reader::parse, Checks.UNSUPPORTED);
        }
        // Bytes from 128 on stay what they are: none is a blank, a sign or a digit without its top bit.
        for (int b : new int[] {0x80, 0xA0, 0xAB, 0xAD, 0xB0, 0xB9, 0xFF}) {
            reader.feed(0x31 << 24 | b << 16, 0, 0, 0, 0);
            checks.due("byte " + b + " behind a digit", reader::parse, Checks.UNSUPPORTED);
            reader.feed(b << 24 | 0x31 << 16, 0, 0, 0, 0);
            checks.due("byte " + b + " before a digit", reader::parseFloat, Checks.UNSUPPORTED);
        }
    }

    private void feedBeyondTheLimit() {
        checks.sentence("it would have more than 8192: IndexOutOfBoundsException");
        for (int length = 8165; length <= 8192; length++) {
            DecimalReader reader = ones(length);
            String want = length <= 8172 ? Integer.toString(length + 20) : Checks.OUT_OF_BOUNDS;
            checks.due("feed at " + length, () -> feedOnes(reader), want);
        }
        DecimalReader reader = new DecimalReader();
        for (int i = 1; i <= 409; i++) {
            feedOnes(reader);
        }
        checks.due("feed 410", () -> feedOnes(reader), Checks.OUT_OF_BOUNDS);
        checks.due("feed 410 again", () -> reader.feed(-1, -1, -1, -1, -1), Checks.OUT_OF_BOUNDS);
        reader.parse();
        checks.due("feed behind parse", () -> feedOnes(reader), 20);
    }

    private void feedAnswersTheLength() {
        checks.sentence("Answers its length.");
        checks.due("from nothing", () -> feedOnes(new DecimalReader()), 20);
        for (int length : new int[] {1, 19, 20, 21, 127, 128, 255, 256, 4095, 4096, 8171, 8172}) {
            DecimalReader reader = ones(length);
            checks.due("from " + length, () -> feedOnes(reader), length + 20);
        }
    }

    private void endWithinTheLength() {
        checks.sentence("The TAPE keeps its first n bytes, n 0 .. its length.");
        for (int length : new int[] {0, 1, 19, 20, 21, 8191, 8192}) {
            DecimalReader reader = ones(length);
            checks.due("end(-1) of " + length, () -> reader.end(-1), Checks.ILLEGAL);
            lengthIs("end(" + length + ")", reader, length);
            checks.due("end(0) of " + length, () -> reader.end(0), 0);
            lengthIs("behind end(0)", reader, 0);
        }
        DecimalReader first = Checks.readerOf("12345");
        first.end(3);
        checks.due("the first three", first::parse, Double.doubleToLongBits(123));
        DecimalReader all = Checks.readerOf("12345");
        all.end(5);
        checks.due("all five", all::parse, Double.doubleToLongBits(12345));
        DecimalReader none = Checks.readerOf("12345");
        none.end(0);
        checks.due("none", none::parse, Checks.UNSUPPORTED);
    }

    private void endAnswersN() {
        checks.sentence("Answers n.");
        DecimalReader reader = ones(8192);
        for (int n : new int[] {8192, 8191, 8191, 256, 255, 128, 127, 20, 1, 0, 0}) {
            checks.due("end(" + n + ")", () -> reader.end(n), n);
        }
    }
}
