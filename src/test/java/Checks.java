import java.nio.charset.StandardCharsets;

/** What the tests share: filling a tape, calling, and counting wrong answers. */
final class Checks {
    static final String UNSUPPORTED = "throws UnsupportedOperationException";
    static final String ILLEGAL = "throws IllegalArgumentException";
    static final String OUT_OF_BOUNDS = "throws IndexOutOfBoundsException";

    private int asked = 0;
    private int wrong = 0;
    private String about = "";

    /** A call whose answer, or whose exception, is looked at. */
    interface Call {
        long answer();
    }

    /** The sentence of the document that the next calls put to the test. */
    void sentence(String said) {
        about = "\"" + said + "\" - ";
    }

    static DecimalReader readerOf(String text) {
        return readerOf(text.getBytes(StandardCharsets.ISO_8859_1));
    }

    static DecimalReader readerOf(byte[] text) {
        DecimalReader reader = new DecimalReader();
        put(reader, text);
        return reader;
    }

    /** For an empty tape. The odd piece comes first: only so can the tape be filled to its last byte. */
    static void put(DecimalReader reader, byte[] text) {
        int odd = text.length % 20;
        if (odd > 0) {
            feedFrom(reader, text, 0);
            reader.end(odd);
        }
        for (int from = odd; from < text.length; from += 20) {
            feedFrom(reader, text, from);
        }
    }

    static void put(DecimalReader reader, String text) {
        put(reader, text.getBytes(StandardCharsets.ISO_8859_1));
    }

    private static void feedFrom(DecimalReader reader, byte[] text, int from) {
        int[] five = new int[5];
        for (int i = 0; i < 20; i++) {
            int b = from + i < text.length ? text[from + i] & 255 : 0;
            five[i / 4] = five[i / 4] << 8 | b;
        }
        reader.feed(five[0], five[1], five[2], five[3], five[4]);
    }

    static String outcome(Call call) {
        try {
            return Long.toString(call.answer());
        } catch (RuntimeException e) {
            return "throws " + e.getClass().getSimpleName();
        }
    }

    void due(String what, Call call, long want) {
        due(what, call, Long.toString(want));
    }

    void due(String what, Call call, String want) {
        asked++;
        String got = outcome(call);
        if (!got.equals(want)) {
            wrong++;
            if (wrong <= 50) {
                System.out.println(about + shortened(what) + ": " + got + ", due is " + want);
            }
        }
    }

    void dueDouble(String text, long want) {
        due("parse of '" + text + "'", readerOf(text)::parse, want);
    }

    void dueFloat(String text, int want) {
        due("parseFloat of '" + text + "'", readerOf(text)::parseFloat, want);
    }

    /** Both readings of a text, each of them behind which the tape is empty. */
    void dueBoth(String text, String wantDouble, String wantFloat) {
        DecimalReader first = readerOf(text);
        due("parse of '" + text + "'", first::parse, wantDouble);
        dueEmpty("parse of '" + text + "'", first);
        DecimalReader second = readerOf(text);
        due("parseFloat of '" + text + "'", second::parseFloat, wantFloat);
        dueEmpty("parseFloat of '" + text + "'", second);
    }

    void dueNumber(String text, double wantDouble, float wantFloat) {
        dueBoth(text, Long.toString(Double.doubleToLongBits(wantDouble)),
            Integer.toString(Float.floatToIntBits(wantFloat)));
    }

    void dueRefused(String text) {
        dueBoth(text, UNSUPPORTED, UNSUPPORTED);
    }

    void dueEmpty(String what, DecimalReader reader) {
        due("end(1) behind " + what, () -> reader.end(1), ILLEGAL);
    }

    private static String shortened(String what) {
        return what.length() <= 200 ? what : what.substring(0, 150) + " .. " + what.length() + " characters";
    }

    void finish() {
        System.out.println(wrong + " of " + asked + " answers are not as due");
        System.exit(wrong == 0 && asked > 0 ? 0 : 1);
    }
}
