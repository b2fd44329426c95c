import java.nio.charset.StandardCharsets;
import java.util.NoSuchElementException;

/** What the tests share: they count wrong answers, and end with exit code 1 if there was one. */
final class Check {
    /** What a call that threw NoSuchElementException counts as. */
    static final int THROWN = Integer.MIN_VALUE;

    private static int wrong = 0;

    private Check() {
    }

    static void due(String call, long got, long want) {
        if (got != want) {
            wrong++;
            System.out.println(call + " answered " + got + ", due is " + want);
        }
    }

    static void due(String call, boolean got, boolean want) {
        due(call, got ? 1 : 0, want ? 1 : 0);
    }

    static void close() {
        System.out.println(wrong == 0 ? "all answers are as due" : wrong + " answers are not as due");
        if (wrong != 0) {
            System.exit(1);
        }
    }

    static int wrong() {
        return wrong;
    }

    static int member(TravelToken x, int member, int what) {
        try {
            return x.member(member, what);
        } catch (NoSuchElementException e) {
            return THROWN;
        }
    }

    /** Brings a text behind the tape, and cuts off what fills up the last feed(). */
    static void feed(TravelToken x, String text) {
        byte[] bytes = text.getBytes(StandardCharsets.ISO_8859_1);
        int before = x.now(12);
        for (int at = 0; at < bytes.length; at += 20) {
            x.feed(four(bytes, at), four(bytes, at + 4), four(bytes, at + 8),
                    four(bytes, at + 12), four(bytes, at + 16));
        }
        x.end(before + bytes.length);
    }

    static int read(TravelToken x, String text) {
        feed(x, text);
        return x.text();
    }

    static TravelToken of(String text) {
        TravelToken x = new TravelToken();
        if (read(x, text) < 0) {
            throw new IllegalArgumentException(text);
        }
        return x;
    }

    /** Reads on a new object: a FAULT of that kind at that place, and all stays. */
    static void faulty(String text, int place, int kind) {
        TravelToken x = new TravelToken();
        due("P4 text() of '" + text + "'", read(x, text), -1 - place);
        due("P5 fault() of '" + text + "'", x.fault(), kind);
        due("P4 the tape is empty behind '" + text + "'", x.now(12), 0);
        due("P4 all stays behind '" + text + "'", x.now(0), 2);
        due("P4 no message behind '" + text + "'", x.now(1), 0);
    }

    /** Reads on a new object: a TEXT with so many ACTS. */
    static TravelToken good(String text, int acts) {
        TravelToken x = new TravelToken();
        due("P4 text() of '" + text + "'", read(x, text), acts);
        due("P5 fault() of '" + text + "'", x.fault(), 0);
        due("P4 the tape is empty behind '" + text + "'", x.now(12), 0);
        return x;
    }

    /** All that can be told of an object; some 120 calls for three members, up to 400 for six. */
    static String state(TravelToken x) {
        return x.fault() + " " + x.now(11) + " " + x.now(12) + " " + dump(x);
    }

    /** All that can be told of an object but what can be undone, the tape and the fault. */
    static String dump(TravelToken x) {
        StringBuilder all = new StringBuilder();
        for (int what = 0; what <= 10; what++) {
            all.append(x.now(what)).append(' ');
        }
        int n = x.now(0);
        for (int m = 0; m < n; m++) {
            dumpMember(x, m, n, all);
            dumpPass(x, m, n, all);
        }
        for (int way = 0; way < n * n; way++) {
            dumpWay(x, way / n, way % n, all);
        }
        return all.toString();
    }

    private static void dumpMember(TravelToken x, int m, int n, StringBuilder all) {
        for (int what = 0; what <= 8; what++) {
            all.append(x.member(m, what)).append(' ');
        }
        for (int table = 10; table <= 30; table += 10) {
            for (int other = 0; other < n; other++) {
                all.append(x.member(m, table + other)).append(' ');
            }
        }
    }

    private static void dumpPass(TravelToken x, int m, int n, StringBuilder all) {
        int queue = x.pass(m, 0);
        for (int k = 0; k < n && queue >= 0; k++) {
            all.append(x.pass(m, 10 + k)).append(' ');
            if (k < queue) {
                all.append(x.pass(m, 20 + k)).append(' ').append(x.pass(m, 30 + k)).append(' ');
            }
        }
    }

    private static void dumpWay(TravelToken x, int from, int to, StringBuilder all) {
        int letters = x.way(from, to);
        for (int k = 0; k < letters; k++) {
            for (int what = 0; what < 3; what++) {
                all.append(x.message(from, to, k, what)).append(' ');
            }
        }
        all.append('/');
    }

    static void same(String call, String got, String want) {
        due(call + " leaves " + got + ", due is " + want + ": same", got.equals(want), true);
    }

    private static int four(byte[] bytes, int at) {
        int number = 0;
        for (int i = at; i < at + 4; i++) {
            number = number << 8 | (i < bytes.length ? bytes[i] & 255 : 0);
        }
        return number;
    }
}
