import java.nio.charset.StandardCharsets;
import java.util.Arrays;
import java.util.Random;

/** Promises 1 to 5 together: random runs of 512 calls on one object beside a plain model of its tape. */
public final class RunsTest {
    private static final int CALLS = 512;
    private static final String[] TEXTS = {
        "0", "-0", "1", "-1.5", "0.1f", ".25e3", "1e23", "9007199254740993", "16777217", "1e-320", "4.9e-324", "1e-45",
        "1e39", "-1e309", "0x1p0", "-0x1.8p1d", "0x.1P-1074", "0x1.000001p0", "NaN", "-NaN", "Infinity", "-Infinity",
        "", " ", ".", "-", "1e", "0x1", "0x.p1", "1 1", "1x", "nan", "1.5.2", "1ff", "\u00b1", "1\u00a0",
    };

    private final Checks checks = new Checks();
    private final Random random = new Random(8);

    // The model: the bytes of the tape, the one that is asked, and how the run began.
    private byte[] tape;
    private DecimalReader reader;
    private String place;

    public static void main(String[] args) {
        RunsTest test = new RunsTest();
        for (int run = 1; run <= 60; run++) {
            test.mixedRun(run);
        }
        for (int run = 1; run <= 12; run++) {
            test.fullRun(run);
        }
        test.checks.finish();
    }

    /** Short texts, cut and read in every order. */
    private void mixedRun(int run) {
        begin();
        for (int call = 1; call <= CALLS; call++) {
            place = "mixed run " + run + ", call " + call + ": ";
            int what = random.nextInt(10);
            if (what < 4) {
                feed(TEXTS[random.nextInt(TEXTS.length)]);
            } else if (what < 8) {
                end(lengthToTry());
            } else {
                read();
            }
        }
    }

    /** Fed to the limit and beyond, so that refused feeds and long texts come up, too. */
    private void fullRun(int run) {
        begin();
        for (int call = 1; call <= CALLS; call++) {
            place = "full run " + run + ", call " + call + ": ";
            if (call % 450 == 0 || random.nextInt(700) == 0) {
                read();
            } else if (tape.length > 8172 && random.nextInt(3) == 0) {
                end(tape.length - random.nextInt(40));
            } else {
                feed(call == 1 ? "0.30000000000000004440" : "98765432109876543210");
            }
        }
    }

    private void begin() {
        reader = new DecimalReader();
        tape = new byte[0];
    }

    /** About the length of the tape or of the text at its end, and numbers out of range. */
    private int lengthToTry() {
        int what = random.nextInt(12);
        if (what == 0) {
            return random.nextInt();
        }
        if (what < 3) {
            return tape.length + random.nextInt(3) - 1;
        }
        return Math.max(0, tape.length - random.nextInt(21));
    }

    private void feed(String text) {
        byte[] bytes = Arrays.copyOf(text.getBytes(StandardCharsets.ISO_8859_1), 20);
        int[] five = new int[5];
        for (int i = 0; i < 20; i++) {
            five[i / 4] = five[i / 4] << 8 | bytes[i] & 255;
        }
        String want = Checks.OUT_OF_BOUNDS;
        if (tape.length + 20 <= 8192) {
            int from = tape.length;
            tape = Arrays.copyOf(tape, from + 20);
            System.arraycopy(bytes, 0, tape, from, 20);
            want = Integer.toString(tape.length);
        }
        checks.due(place + "feed '" + text + "'", () -> reader.feed(five[0], five[1], five[2], five[3], five[4]), want);
    }

    private void end(int n) {
        String want = Checks.ILLEGAL;
        if (n >= 0 && n <= tape.length) {
            tape = Arrays.copyOf(tape, n);
            want = Integer.toString(n);
        }
        checks.due(place + "end(" + n + ")", () -> reader.end(n), want);
    }

    private void read() {
        String text = new String(tape, StandardCharsets.ISO_8859_1);
        tape = new byte[0];
        if (random.nextBoolean()) {
            checks.due(place + "parse of '" + text + "'", reader::parse, Oracle.ofDouble(text));
        } else {
            checks.due(place + "parseFloat of '" + text + "'", reader::parseFloat, Oracle.ofFloat(text));
        }
    }
}
