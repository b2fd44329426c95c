/** A refused call, one that throws, one on paper changes nothing: neither what is told, nor what is undone. */
public final class RefusalsTest {
    // Texts that lead to states of many kinds.
    private static final String[] STATES = {
        // Nothing has been done.
        "members 2;",
        // One is in, others ask, votes are collected.
        "members 3;ask 0;ask 1;suspect 1;send 1 0;send 1 2;send 1 2;send 2 1;",
        // A pass with a queue is on its way.
        "members 4;rank 2 3;ask 0;ask 1;ask 2;ask 3;send 1 0;send 2 0;send 3 0;leave 0;",
        // A pass with a queue is had.
        "members 4;rank 2 3;ask 0;ask 1;ask 2;ask 3;send 1 0;send 2 0;send 3 0;leave 0;send 0 2;",
        // An old pass on its way, a new one had.
        "members 3;ask 1;send 1 0;ask 2;send 2 0;suspect 2;send 2 0;send 2 1;send 2 1;send 1 2;send 1 2;send 0 2;",
        // One is in without a pass.
        "members 3;ask 0;ask 1;send 1 0;suspect 1;lose 1 0;suspect 1;send 1 0;",
        // No pass at all, all ways are full.
        "members 3;ask 1;send 1 0;lose 0 1;lose 1 2;" + "suspect 1;".repeat(20),
        // All ways are full, one is in.
        "members 6;ask 1;send 1 0;send 0 1;send 1 2;send 1 3;send 1 4;send 1 5;ask 2;ask 3;"
                + "suspect 2;suspect 2;suspect 2;suspect 2;suspect 2;suspect 2;",
    };
    private static final int CALLS = 71;

    public static void main(String[] args) {
        int refused = 0;
        for (String text : STATES) {
            for (int call = 0; call < CALLS; call++) {
                refused += changesNothing(text, call);
            }
        }
        Check.due("many calls were refused", refused > 300, true);
        refusedTapeCalls();
        faultyTexts();
        refusedBetweenActs();
        Check.close();
    }

    /** A tape with a few bytes, a fault of kind 2, and some acts that can be undone. */
    private static TravelToken made(String text) {
        TravelToken x = Check.of(text);
        Check.read(x, "members 1;");
        x.feed(0x6d656d62, 0x65727320, 0x343b6173, 0x6b20303b, 0x20202020);
        x.end(11);
        x.settle(1);
        x.undo();
        x.lose(0, 1);
        x.lose(1, 0);
        return x;
    }

    /** Makes a call, and answers 1 if it was one that has to change nothing. */
    private static int changesNothing(String text, int call) {
        TravelToken x = made(text);
        if (!isIdle(x, call)) {
            return 0;
        }
        TravelToken y = made(text);
        Check.same("call " + call + " behind '" + text + "'", Check.state(x), Check.state(y));
        x = made(text);
        isIdle(x, call);
        y = made(text);
        Check.due("P20 behind call " + call, x.undo(), y.undo());
        Check.same("P20 behind call " + call + " and '" + text + "'", Check.state(x), Check.state(y));
        return 1;
    }

    /** Makes the call of that number: was it refused, did it throw, or does it tell only? */
    private static boolean isIdle(TravelToken x, int call) {
        int a = call % 9 - 1;
        int b = (a + 1 + call / 9) % 9 - 1;
        if (call < 9) {
            return x.ask(a) < 0;
        }
        if (call < 18) {
            return x.leave(a) < 0;
        }
        if (call < 27) {
            return x.suspect(a) < 0;
        }
        if (call < 36) {
            return x.send(a, b) < 0;
        }
        if (call < 45) {
            return x.lose(a, b) < 0;
        }
        if (call < 54) {
            return isIdleByNumber(x, call - 45);
        }
        return tells(x, call - 54, a, b);
    }

    private static boolean isIdleByNumber(TravelToken x, int call) {
        int[] times = {0, -1, 100, 101, Integer.MIN_VALUE, Integer.MAX_VALUE};
        if (call < times.length) {
            return x.settle(times[call]) < 0;
        }
        int[] ends = {-1, 12, Integer.MAX_VALUE};
        return !x.end(ends[call - times.length]);
    }

    private static boolean tells(TravelToken x, int call, int a, int b) {
        switch (call) {
            case 0: return x.would(1, 0) >= -1;
            case 1: return x.would(0, 1) >= -1;
            case 2: return x.would(1, 2) >= -1;
            case 3: return x.would(a, b) >= -1;
            case 4: return x.soon(0) >= -2;
            case 5: return x.soon(1) >= -2;
            case 6: return x.soon(9) == -1;
            case 7: return x.order(0) >= -1;
            case 8: return x.order(19) >= -1;
            case 9: return x.order(20) == -1;
            case 10: return Check.member(x, -1, 0) == Check.THROWN;
            case 11: return Check.member(x, 9, 0) == Check.THROWN;
            case 12: return Check.member(x, 0, 9) == Check.THROWN;
            case 13: return Check.member(x, 0, 36) == Check.THROWN;
            case 14: return x.pass(0, 99) == -1;
            case 15: return x.message(0, 1, -1, 0) == -1;
            default: return x.now(13) == -1;
        }
    }

    private static void refusedTapeCalls() {
        TravelToken x = new TravelToken();
        TravelToken y = new TravelToken();
        String text = "members 2;ask 1;" + " ".repeat(624);
        Check.feed(x, text);
        Check.feed(y, text);
        Check.due("P2 refused", x.feed(-1, -1, -1, -1, -1), -1);
        Check.due("P3 refused", x.end(641), false);
        Check.due("P3 refused", x.end(-1), false);
        Check.same("refused tape calls", Check.state(x), Check.state(y));
        x.end(600);
        Check.due("P4 the bytes are as they were", x.text(), 1);
    }

    /** A text with a FAULT of each kind: the tape is empty, the kind is told, all else stays. */
    private static void faultyTexts() {
        String[] faulty = {"members 3;ask 1;ask 2", "members 3;ask 1;settle 0;", "members 3;" + "rank 1 9;".repeat(21),
            "members 3;ask 1;ask 2;settle 9;ask 3;"};
        for (String text : STATES) {
            for (int kind = 1; kind <= 4; kind++) {
                TravelToken x = made(text);
                TravelToken y = made(text);
                x.end(0);
                Check.due("P4 a fault", Check.read(x, faulty[kind - 1]) < 0, true);
                Check.due("P5 its kind", x.fault(), kind);
                Check.due("P6 what can be undone stays", x.now(11), y.now(11));
                Check.same("P4 kind " + kind + " behind '" + text + "'", Check.dump(x), Check.dump(y));
                x = made(text);
                y = made(text);
                x.end(0);
                Check.read(x, faulty[kind - 1]);
                Check.due("P20", x.undo(), y.undo());
                Check.same("P20 behind kind " + kind + " and '" + text + "'", Check.dump(x), Check.dump(y));
            }
        }
    }

    /** Refused calls between twelve acts: ten are kept all the same. */
    private static void refusedBetweenActs() {
        TravelToken x = Check.of("members 3;");
        for (int i = 1; i <= 6; i++) {
            x.ask(0);
            Check.due("P14", x.ask(0), -2);
            Check.due("P16", x.suspect(0), -2);
            x.leave(0);
            Check.due("P15", x.leave(0), -1);
            Check.due("P17", x.send(0, 1), -1);
            Check.due("P18", x.lose(0, 1), -1);
            Check.due("P19", x.settle(0), -1);
            Check.due("P6", x.now(11), Math.min(2 * i, 10));
        }
        for (int i = 9; i >= 0; i--) {
            Check.due("P20", x.undo(), i);
        }
        Check.due("P20", x.undo(), -1);
        Check.due("P7 two acts are left", x.member(0, 2), 1);
    }
}
