import java.nio.charset.StandardCharsets;
import java.util.NoSuchElementException;

/** What the tests share: they count wrong answers, and end with exit code 1 if there was one. */
final class Check {
    /** What a call that threw NoSuchElementException counts as. */
    static final int THROWN = Integer.MIN_VALUE;

    private static int wrong = 0;

    private Check() {
    }

    static void due(String call, long got, long want) {
        if (got != want) {
            wrong++;
            System.out.println(call + " answered " + got + ", due is " + want);
        }
    }

    static void due(String call, boolean got, boolean want) {
        due(call, got ? 1 : 0, want ? 1 : 0);
    }

    static void close() {
        System.out.println(wrong == 0 ? "all answers are as due" : wrong + " answers are not as due");
        if (wrong != 0) {
            System.exit(1);
        }
    }

    static int wrong() {
        return wrong;
    }

    static int member(TravelToken x, int member, int what) {
        try {
            return x.member(member, what);
        } catch (NoSuchElementException e) {
            return THROWN;
        }
    }

    /** Brings a text behind the tape, and cuts off what fills up the last feed(). */
    static void feed(TravelToken x, String text) {
        byte[] bytes = text.getBytes(StandardCharsets.ISO_8859_1);
        int before = x.now(12);
        for (int at = 0; at < bytes.length; at += 20) {
            x.feed(four(bytes, at), four(bytes, at + 4), four(bytes, at + 8),
                    four(bytes, at + 12), four(bytes, at + 16));
        }
        x.end(before + bytes.length);
    }

    static int read(TravelToken x, String text) {
        feed(x, text);
        return x.text();
    }

    static TravelToken of(String text) {
        TravelToken x = new TravelToken();
        if (read(x, text) < 0) {
            throw new IllegalArgumentException(text);
        }
        return x;
    }

    /** All that can be told of an object but what can be undone, the tape and the fault; some 100 calls for three members. */
    static String dump(TravelToken x) {
        StringBuilder all = new StringBuilder();
        for (int what = 0; what <= 10; what++) {
            all.append(x.now(what)).append(' ');
        }
        int n = x.now(0);
        for (int m = 0; m < n; m++) {
            for (int what = 0; what <= 8; what++) {
                all.append(x.member(m, what)).append(' ');
            }
            for (int other = 0; other < n; other++) {
                all.append(x.member(m, 10 + other)).append(' ').append(x.member(m, 30 + other)).append(' ');
            }
            int queue = x.pass(m, 0);
            for (int k = 0; k < n && queue >= 0; k++) {
                all.append(x.pass(m, 10 + k)).append(' ');
                if (k < queue) {
                    all.append(x.pass(m, 20 + k)).append(' ').append(x.pass(m, 30 + k)).append(' ');
                }
            }
        }
        for (int way = 0; way < n * n; way++) {
            int letters = x.way(way / n, way % n);
            for (int k = 0; k < letters; k++) {
                for (int what = 0; what < 3; what++) {
                    all.append(x.message(way / n, way % n, k, what)).append(' ');
                }
            }
            all.append('/');
        }
        return all.toString();
    }

    static void same(String call, String got, String want) {
        due(call + " leaves " + got + ", due is " + want + ": same", got.equals(want), true);
    }

    private static int four(byte[] bytes, int at) {
        int number = 0;
        for (int i = at; i < at + 4; i++) {
            number = number << 8 | (i < bytes.length ? bytes[i] & 255 : 0);
        }
        return number;
    }
}
