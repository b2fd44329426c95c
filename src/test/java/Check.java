import java.nio.charset.StandardCharsets;
import java.util.NoSuchElementException;

/** What the tests share: they count wrong answers, and end with exit code 1 if there was one. */
final class Check {
    /** What a call that threw NoSuchElementException counts as. */
    static final int THROWN = Integer.MIN_VALUE;

    private static int wrong = 0;

    private Check() {
    }

    static void due(String call, long got, long want) {
        if (got != want) {
            wrong++;
            System.out.println(call + " answered " + got + ", due is " + want);
        }
    }

    static void due(String call, boolean got, boolean want) {
        due(call, got ? 1 : 0, want ? 1 : 0);
    }

    static void close() {
        System.out.println(wrong == 0 ? "all answers are as due" : wrong + " answers are not as due");
        if (wrong != 0) {
            System.exit(1);
        }
    }

    static int wrong() {
        return wrong;
    }

    static int member(TravelToken x, int member, int what) {
        try {
            return x.member(member, what);
        } catch (NoSuchElementException e) {
            return THROWN;
        }
    }

    /** Brings a text behind the tape, and cuts off what fills up the last feed(). */
    static void feed(TravelToken x, String text) {
        byte[] bytes = text.getBytes(StandardCharsets.ISO_8859_1);
        int before = x.now(12);
        for (int at = 0; at < bytes.length; at += 20) {
            x.feed(four(bytes, at), four(bytes, at + 4), four(bytes, at + 8),
                    four(bytes, at + 12), four(bytes, at + 16));
        }
        x.end(before + bytes.length);
    }

    static int read(TravelToken x, String text) {
        feed(x, text);
        return x.text();
    }

    static TravelToken of(String text) {
        TravelToken x = new TravelToken();
        if (read(x, text) < 0) {
            throw new IllegalArgumentException(text);
        }
        return x;
    }

    private static int four(byte[] bytes, int at) {
        int number = 0;
        for (int i = at; i < at + 4; i++) {
            number = number << 8 | (i < bytes.length ? bytes[i] & 255 : 0);
        }
        return number;
    }
}
