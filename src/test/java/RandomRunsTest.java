import java.util.Arrays;
import java.util.Random;

/** Runs of at most 512 calls from fixed seeds: the class and the model answer alike. */
public final class RandomRunsTest {
    private static final int RUNS = 6000;
    private static final int CALLS = 512;
    // What lookAtAll() needs at most: six members, 41 messages, one pass that is had.
    private static final int CALLS_OF_ALL = 410;

    private final Random random;
    private final TravelToken x = new TravelToken();
    private final Model model = new Model();
    // How much this run loses, suspects, settles, asks and undoes, so that the runs differ in kind.
    private final int losing;
    private final int suspecting;
    private final int settling;
    private final int asking;
    private final int undoing;
    // A way on which messages are mostly left, so that an old pass may outlive its time.
    private final int slowWay;
    private int size = 2;
    private int calls = 0;

    private RandomRunsTest(int seed) {
        random = new Random(seed);
        losing = Math.max(0, random.nextInt(6) - 3);
        suspecting = random.nextInt(5);
        settling = random.nextInt(3);
        asking = 2 + random.nextInt(12);
        undoing = random.nextInt(3) == 0 ? 1 + random.nextInt(30) : 1;
        slowWay = random.nextInt(2) == 0 ? random.nextInt(16) : -1;
    }

    public static void main(String[] args) {
        for (int seed = 0; seed < RUNS && Check.wrong() == 0; seed++) {
            new RandomRunsTest(seed).run(seed);
        }
        Check.close();
    }

    private void run(int seed) {
        String name = "run " + seed + ": ";
        bringText(name, goodText());
        if (seed % 2 == 0) {
            actMuch(name);
        } else {
            actAndLookAtAll(name);
        }
    }

    private void actMuch(String name) {
        while (calls < CALLS - 60 && Check.wrong() == 0) {
            if (random.nextInt(60) == 0) {
                bringText(name, random.nextInt(3) == 0 ? goodText() : spoilt(goodText()));
            } else if (random.nextInt(3) > 0) {
                act(name);
            } else {
                look(name);
            }
        }
        while (calls < CALLS && Check.wrong() == 0) {
            look(name);
        }
    }

    private void actAndLookAtAll(String name) {
        int acts = random.nextInt(CALLS - CALLS_OF_ALL);
        while (calls < acts && Check.wrong() == 0) {
            act(name);
        }
        lookAtAll(name);
        Check.due(name + "no more than 512 calls", calls <= CALLS, true);
    }

    private void lookAtAll(String name) {
        for (int what = -1; what <= 13; what++) {
            due(name + "now " + what, x.now(what), model.now(what));
        }
        for (int m = 0; m < size; m++) {
            lookAtMember(name, m);
        }
        for (int way = 0; way < size * size; way++) {
            lookAtWay(name, way / size, way % size);
        }
        for (int k = 0; k <= size; k++) {
            due(name + "order " + k, x.order(k), model.order(k));
        }
    }

    private void lookAtMember(String name, int m) {
        for (int what = 0; what < 30 + size; what++) {
            if (what < 9 || what >= 10 && what % 10 < size) {
                due(name + "member " + m + " " + what, Check.member(x, m, what), model.member(m, what));
            }
        }
        due(name + "soon " + m, x.soon(m), model.soon(m));
        due(name + "pass " + m, x.pass(m, 0), model.pass(m, 0));
        for (int what = 10; what < 36 && model.pass(m, 0) >= 0; what++) {
            if (what % 10 < size) {
                due(name + "pass " + m + " " + what, x.pass(m, what), model.pass(m, what));
            }
        }
    }

    private void lookAtWay(String name, int from, int to) {
        String way = " " + from + " " + to;
        due(name + "way" + way, x.way(from, to), model.way(from, to));
        for (int k = 0; k < model.way(from, to); k++) {
            for (int what = 0; what < 3; what++) {
                due(name + "message" + way + " " + k + " " + what, x.message(from, to, k, what),
                        model.message(from, to, k, what));
            }
        }
        if (model.way(from, to) > 0) {
            due(name + "would" + way, x.would(from, to), model.would(from, to));
        }
    }

    private void due(String call, int got, int want) {
        calls++;
        Check.due(call, got, want);
    }

    private void bringText(String name, String text) {
        byte[] bytes = Arrays.copyOf(text.getBytes(java.nio.charset.StandardCharsets.ISO_8859_1),
                (text.length() + 19) / 20 * 20);
        java.nio.ByteBuffer numbers = java.nio.ByteBuffer.wrap(bytes);
        for (int i = 0; i < bytes.length / 20; i++) {
            int a = numbers.getInt();
            int b = numbers.getInt();
            int c = numbers.getInt();
            int d = numbers.getInt();
            int e = numbers.getInt();
            due(name + "feed", x.feed(a, b, c, d, e), model.feed(a, b, c, d, e));
        }
        int n = text.length();
        due(name + "end", x.end(n) ? 1 : 0, model.end(n) ? 1 : 0);
        due(name + "text of '" + text + "'", x.text(), model.text());
        due(name + "fault of '" + text + "'", x.fault(), model.fault());
        size = model.now(0);
    }

    private String goodText() {
        int n = 2 + random.nextInt(5);
        StringBuilder text = new StringBuilder("members ").append(n).append(';');
        for (int i = random.nextInt(5); i > 0; i--) {
            text.append("rank ").append(random.nextInt(n)).append(' ').append(random.nextInt(10)).append(';');
        }
        for (int i = random.nextInt(4); i > 0; i--) {
            text.append(random.nextInt(4) == 0 ? "settle 3;" : "ask " + random.nextInt(n) + ";");
        }
        return text.toString();
    }

    private String spoilt(String good) {
        StringBuilder text = new StringBuilder(good);
        if (random.nextInt(6) == 0) {
            int upTo = 590 + random.nextInt(15);
            while (text.length() < upTo) {
                text.append(random.nextInt(9) == 0 ? "settle 01;" : " ");
            }
        }
        String pieces = "0123456789;;  \nask leave send settle!A" + (char) 200;
        for (int i = 1 + random.nextInt(3); i > 0; i--) {
            char piece = pieces.charAt(random.nextInt(pieces.length()));
            int place = random.nextInt(text.length());
            if (random.nextInt(2) == 0) {
                text.setCharAt(place, piece);
            } else {
                text.insert(place, piece);
            }
        }
        return text.toString();
    }

    /** A member as a rule, else one there is not. */
    private int someone() {
        return random.nextInt(25) == 0 ? random.nextInt(12) - 3 : random.nextInt(size);
    }

    /** One of these members as a rule. */
    private int oneOf(int bits) {
        int who = someone();
        for (int tries = 0; tries < 10 && (bits >> who & 1) == 0; tries++) {
            who = random.nextInt(size);
        }
        return who;
    }

    /** A way with a message on it as a rule: from * 8 + to. */
    private int someWay() {
        for (int tries = 0; tries < 20; tries++) {
            int from = random.nextInt(size);
            int to = random.nextInt(size);
            int way = from * 8 + to;
            if (model.way(from, to) > 0 && (way != slowWay || random.nextInt(30) == 0)) {
                return way;
            }
        }
        return random.nextInt(64);
    }

    private void act(String name) {
        int way = someWay();
        int from = way / 8;
        int to = way % 8;
        int pick = random.nextInt(asking + suspecting + losing + settling + 23 + undoing);
        if (pick < asking) {
            int who = oneOf(~(model.now(8) | model.now(9)));
            due(name + "ask " + who, x.ask(who), model.ask(who));
        } else if ((pick -= asking) < suspecting) {
            int who = oneOf(model.now(8));
            due(name + "suspect " + who, x.suspect(who), model.suspect(who));
            if (random.nextInt(4) == 0) {
                suspectOnceMore(name, who);
            }
        } else if ((pick -= suspecting) < losing) {
            due(name + "lose " + from + " " + to, x.lose(from, to), model.lose(from, to));
        } else if ((pick -= losing) < settling) {
            int times = random.nextInt(10) == 0 ? random.nextInt(120) - 10 : 1 + random.nextInt(6);
            due(name + "settle " + times, x.settle(times), model.settle(times));
        } else if ((pick -= settling) < 17) {
            due(name + "send " + from + " " + to, x.send(from, to), model.send(from, to));
        } else if (pick < 23) {
            int who = oneOf(model.now(9));
            due(name + "leave " + who, x.leave(who), model.leave(who));
        } else {
            due(name + "undo", x.undo(), model.undo());
        }
    }

    /** The holder hears of the second doubt alone, by which its pass dies, though it may be in. */
    private void suspectOnceMore(String name, int who) {
        due(name + "suspect " + who, x.suspect(who), model.suspect(who));
        int holder = Integer.numberOfTrailingZeros(model.now(10));
        for (int tries = 0; tries < 4 && model.way(who, holder) > 1; tries++) {
            due(name + "lose " + who + " " + holder, x.lose(who, holder), model.lose(who, holder));
        }
    }

    private void look(String name) {
        int who = someone();
        int way = someWay();
        int from = way / 8;
        int to = way % 8;
        int what = random.nextInt(2) == 0 ? random.nextInt(12) - 1 : 10 * random.nextInt(5) + random.nextInt(7);
        int k = random.nextInt(8) - 1;
        switch (random.nextInt(8)) {
            case 0 -> {
                int count = random.nextInt(15) - 1;
                due(name + "now " + count, x.now(count), model.now(count));
            }
            case 1 -> due(name + "member " + who + " " + what, Check.member(x, who, what), model.member(who, what));
            case 2 -> {
                int has = oneOf(model.now(10));
                due(name + "pass " + has + " " + what, x.pass(has, what), model.pass(has, what));
            }
            case 3 -> due(name + "way " + from + " " + to, x.way(from, to), model.way(from, to));
            case 4 -> due(name + "message " + from + " " + to + " " + k, x.message(from, to, k / 2, what % 4),
                    model.message(from, to, k / 2, what % 4));
            case 5 -> due(name + "would " + from + " " + to, x.would(from, to), model.would(from, to));
            case 6 -> due(name + "soon " + who, x.soon(who), model.soon(who));
            default -> due(name + "order " + k, x.order(k), model.order(k));
        }
    }
}
