import java.util.NoSuchElementException;
import java.util.Random;

/** Calls with any arguments in any state: none throws but member(), and that only what the document names. */
public final class AnyArgumentsTest {
    private static final int[] EDGES = {Integer.MIN_VALUE, Integer.MIN_VALUE + 1, -641, -41, -10, -3, -2, -1, 7, 8, 9, 10, 12, 13,
        15, 16, 19, 20, 25, 26, 29, 30, 35, 36, 39, 40, 99, 100, 199, 200, 600, 640, 641, 0x7ffffff8, Integer.MAX_VALUE};
    private static final String TEXT = "members 6;rank 1 9;ask 0;ask 1;ask 2;send 1 0;suspect 2;";
    // Some of these make more calls than one: all together stay below 512.
    private static final int CALLS = 400;

    private final Random random;
    private final TravelToken x = new TravelToken();

    private AnyArgumentsTest(int seed) {
        random = new Random(seed);
    }

    public static void main(String[] args) {
        for (int seed = 0; seed < 1000; seed++) {
            new AnyArgumentsTest(seed).run(seed);
        }
        Check.close();
    }

    private void run(int seed) {
        int call = 0;
        try {
            Check.read(x, TEXT);
            for (call = 10; call < CALLS; call++) {
                make(random.nextInt(24));
            }
        } catch (RuntimeException e) {
            Check.due("run " + seed + ", call " + call + " threw " + e, 1, 0);
        }
    }

    /** A member as a rule, else a number of the edges, or any. */
    private int any() {
        int pick = random.nextInt(8);
        return pick < 5 ? random.nextInt(7) : pick < 7 ? EDGES[random.nextInt(EDGES.length)] : random.nextInt();
    }

    private void make(int call) {
        switch (call) {
            case 0 -> x.feed(random.nextInt(), 0x3b3b3b3b, 0x61736b20, any(), any());
            case 1 -> x.end(any());
            case 2 -> readSomething();
            case 3 -> x.now(any());
            case 4 -> tellMember(any(), any());
            case 5 -> x.pass(any(), any());
            case 6 -> x.way(any(), any());
            case 7 -> x.message(any(), any(), any(), any());
            case 8 -> x.would(any(), any());
            case 9 -> x.soon(any());
            case 10 -> x.order(any());
            case 11, 12, 13 -> x.ask(any());
            case 14, 15 -> x.leave(any());
            case 16, 17 -> x.suspect(any());
            case 18, 19 -> x.send(any(), any());
            case 20 -> x.lose(any(), any());
            case 21 -> x.settle(any());
            case 22 -> x.undo();
            default -> x.fault();
        }
    }

    private void readSomething() {
        if (random.nextInt(4) == 0) {
            x.end(0);
            Check.feed(x, TEXT);
        }
        if (random.nextInt(2) == 0) {
            x.text();
        }
    }

    private void tellMember(int member, int what) {
        boolean such = member >= 0 && member < x.now(0);
        try {
            x.member(member, what);
            Check.due("P7 member(" + member + ", " + what + ") tells", such, true);
        } catch (NoSuchElementException e) {
            Check.due("P7 throws it and no other", e.getClass() == NoSuchElementException.class, true);
            Check.due("P7 member(" + member + ", " + what + ") throws", such && what >= 0 && what <= 8, false);
        }
    }
}
