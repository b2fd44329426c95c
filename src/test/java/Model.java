import java.util.ArrayDeque;
import java.util.ArrayList;
import java.util.Arrays;
import java.util.Deque;
import java.util.HashMap;
import java.util.List;
import java.util.Map;
import java.util.TreeMap;
import java.util.regex.Matcher;
import java.util.regex.Pattern;

/** A second writing of the document, as plain as can be, to compare the class with. */
final class Model {
    private static final class Waiting {
        final int who;
        int waits;

        Waiting(int who, int waits) {
            this.who = who;
            this.waits = waits;
        }
    }

    private static final class Token {
        int mark;
        final Map<Integer, Integer> last = new TreeMap<>();
        final List<Waiting> queue = new ArrayList<>();

        Token copy() {
            Token t = new Token();
            t.mark = mark;
            t.last.putAll(last);
            for (Waiting w : queue) {
                t.queue.add(new Waiting(w.who, w.waits));
            }
            return t;
        }
    }

    private static final class Letter {
        final long stamp;
        final String kind;
        final int value;
        final int extra;
        final Token token;

        Letter(long stamp, String kind, int value, int extra, Token token) {
            this.stamp = stamp;
            this.kind = kind;
            this.value = value;
            this.extra = extra;
            this.token = token;
        }

        int number() {
            return List.of("REQUEST", "PASS", "DOUBT", "HAVE", "VOTE").indexOf(kind);
        }
    }

    private static final class Person {
        int rank;
        int number;
        int served;
        int age = 1;
        boolean asks;
        boolean in;
        Token token;
        int collects;
        final Map<Integer, Integer> ballots = new TreeMap<>();
        final int[] seen = new int[6];
        final int[] known = new int[6];
        int[] row = new int[6];

        Person copy() {
            Person p = new Person();
            p.rank = rank;
            p.number = number;
            p.served = served;
            p.age = age;
            p.asks = asks;
            p.in = in;
            p.token = token == null ? null : token.copy();
            p.collects = collects;
            p.ballots.putAll(ballots);
            System.arraycopy(seen, 0, p.seen, 0, 6);
            System.arraycopy(known, 0, p.known, 0, 6);
            p.row = row.clone();
            return p;
        }
    }

    private static final class World {
        final List<Person> people = new ArrayList<>();
        final Map<List<Integer>, ArrayDeque<Letter>> ways = new HashMap<>();
        long stamps;
        int died;
        int made;
        int lost;
        int left;
        // What the deliveries did, in their order.
        final List<String> events = new ArrayList<>();

        World(int n, int[] ranks) {
            for (int i = 0; i < n; i++) {
                Person p = new Person();
                p.rank = ranks[i];
                System.arraycopy(ranks, 0, p.known, 0, 6);
                people.add(p);
            }
            Token t = new Token();
            t.mark = 1;
            for (int i = 0; i < n; i++) {
                t.last.put(i, 0);
            }
            people.get(0).token = t;
        }

        World copy() {
            World w = new World(people.size(), new int[6]);
            for (int i = 0; i < people.size(); i++) {
                w.people.set(i, people.get(i).copy());
            }
            for (Map.Entry<List<Integer>, ArrayDeque<Letter>> way : ways.entrySet()) {
                ArrayDeque<Letter> letters = new ArrayDeque<>();
                for (Letter l : way.getValue()) {
                    letters.add(new Letter(l.stamp, l.kind, l.value, l.extra,
                            l.token == null ? null : l.token.copy()));
                }
                w.ways.put(way.getKey(), letters);
            }
            w.stamps = stamps;
            w.died = died;
            w.made = made;
            w.lost = lost;
            w.left = left;
            return w;
        }

        boolean exists(int m) {
            return m >= 0 && m < people.size();
        }

        ArrayDeque<Letter> letters(int from, int to) {
            return ways.computeIfAbsent(List.of(from, to), k -> new ArrayDeque<>());
        }

        int messages() {
            return ways.values().stream().mapToInt(ArrayDeque::size).sum();
        }

        void mail(int from, int to, String kind, int value, int extra, Token token) {
            letters(from, to).addLast(new Letter(stamps++, kind, value, extra, token));
        }

        int ask(int m) {
            if (!exists(m)) {
                return -1;
            }
            Person p = people.get(m);
            if (p.asks || p.in) {
                return -2;
            }
            if (messages() + (p.token != null ? 0 : people.size() - 1) > 40) {
                return -3;
            }
            p.number += 1;
            if (p.token != null) {
                p.in = true;
                return p.number;
            }
            p.asks = true;
            for (int o = 0; o < people.size(); o++) {
                if (o != m) {
                    mail(m, o, "REQUEST", p.number, p.rank, null);
                }
            }
            return p.number;
        }

        int leave(int m) {
            if (!exists(m) || !people.get(m).in) {
                return -1;
            }
            Person p = people.get(m);
            p.in = false;
            p.served = p.number;
            left++;
            if (p.token != null) {
                p.token.last.put(m, p.number);
                return handOn(m);
            }
            return m;
        }

        int handOn(int m) {
            Person p = people.get(m);
            Token t = p.token;
            t.queue.removeIf(w -> w.who == m);
            for (int o = 0; o < people.size(); o++) {
                int who = o;
                if (o != m && p.seen[o] > t.last.get(o) && t.queue.stream().noneMatch(w -> w.who == who)) {
                    t.queue.add(new Waiting(o, 0));
                }
            }
            if (t.queue.isEmpty()) {
                return m;
            }
            Waiting best = t.queue.get(0);
            for (Waiting w : t.queue) {
                if (p.known[w.who] + w.waits > p.known[best.who] + best.waits) {
                    best = w;
                }
            }
            t.queue.remove(best);
            for (Waiting w : t.queue) {
                w.waits++;
            }
            p.row = rowOf(t);
            p.token = null;
            mail(m, best.who, "PASS", t.mark, t.queue.size(), t);
            events.add("sent");
            return best.who;
        }

        int[] rowOf(Token t) {
            int[] row = new int[6];
            t.last.forEach((who, number) -> row[who] = number);
            return row;
        }

        int suspect(int m) {
            if (!exists(m)) {
                return -1;
            }
            Person p = people.get(m);
            if (!p.asks) {
                return -2;
            }
            if (messages() + people.size() - 1 > 40) {
                return -3;
            }
            p.age += 1;
            p.collects = p.age;
            p.ballots.clear();
            for (int o = 0; o < people.size(); o++) {
                if (o != m) {
                    mail(m, o, "DOUBT", p.age, 0, null);
                }
            }
            return p.age;
        }

        int send(int from, int to) {
            if (letters(from, to).isEmpty()) {
                return -1;
            }
            Letter l = letters(from, to).removeFirst();
            Person p = people.get(to);
            switch (l.kind) {
                case "REQUEST" -> {
                    if (l.value > p.seen[from]) {
                        p.seen[from] = l.value;
                    }
                    p.known[from] = l.extra;
                    if (p.token != null && !p.in) {
                        handOn(to);
                    }
                }
                case "PASS" -> pass(l.token, to);
                case "DOUBT" -> doubt(from, to, l.value);
                case "HAVE" -> {
                    if (p.collects == l.value) {
                        noVotes(p);
                    }
                }
                default -> vote(from, to, l);
            }
            return l.number();
        }

        void noVotes(Person p) {
            p.collects = 0;
            p.ballots.clear();
        }

        void die() {
            died++;
            events.add("died");
        }

        void pass(Token t, int to) {
            Person p = people.get(to);
            if (t.mark < p.age) {
                die();
                return;
            }
            if (p.token != null) {
                die();
            }
            p.token = t;
            p.age = t.mark;
            noVotes(p);
            if (p.served > t.last.get(to)) {
                t.last.put(to, p.served);
            }
            p.row = rowOf(t);
            if (p.asks) {
                comeIn(to);
            } else if (!p.in) {
                handOn(to);
            }
        }

        void comeIn(int m) {
            people.get(m).asks = false;
            people.get(m).in = true;
            events.add("in" + m);
        }

        void doubt(int from, int to, int e) {
            Person p = people.get(to);
            if (p.token != null && p.token.mark >= e - 1) {
                if (e > p.token.mark) {
                    p.token.mark = e;
                }
                if (e > p.age) {
                    p.age = e;
                }
                mail(to, from, "HAVE", e, 0, null);
                return;
            }
            if (p.age >= e) {
                return;
            }
            p.age = e;
            if (p.token != null) {
                p.token = null;
                die();
            }
            noVotes(p);
            mail(to, from, "VOTE", e, p.served, null);
        }

        void vote(int from, int to, Letter l) {
            Person p = people.get(to);
            if (p.collects != l.value || p.age != l.value) {
                return;
            }
            p.ballots.put(from, l.extra);
            if (p.ballots.size() < people.size() - 1) {
                return;
            }
            Token t = new Token();
            t.mark = l.value;
            t.last.putAll(p.ballots);
            t.last.put(to, p.served);
            p.token = t;
            p.row = rowOf(t);
            noVotes(p);
            made++;
            comeIn(to);
        }

        int lose(int from, int to) {
            if (letters(from, to).isEmpty()) {
                return -1;
            }
            lost++;
            return letters(from, to).removeFirst().number();
        }

        boolean settleOnce() {
            for (int m = 0; m < people.size(); m++) {
                leave(m);
            }
            List<Integer> eldest = null;
            for (List<Integer> way : ways.keySet()) {
                if (!ways.get(way).isEmpty() && (eldest == null
                        || ways.get(way).getFirst().stamp < ways.get(eldest).getFirst().stamp)) {
                    eldest = way;
                }
            }
            if (eldest == null) {
                return false;
            }
            events.clear();
            send(eldest.get(0), eldest.get(1));
            return true;
        }

        int settle(int times) {
            if (times < 1 || times > 99) {
                return -1;
            }
            int done = 0;
            while (done < times && settleOnce()) {
                done++;
            }
            return done;
        }

        List<Token> tokens() {
            List<Token> tokens = new ArrayList<>();
            for (Person p : people) {
                if (p.token != null) {
                    tokens.add(p.token);
                }
            }
            for (ArrayDeque<Letter> letters : ways.values()) {
                for (Letter l : letters) {
                    if (l.token != null) {
                        tokens.add(l.token);
                    }
                }
            }
            return tokens;
        }

        int valid() {
            int valid = 0;
            for (Token t : tokens()) {
                boolean is = tokens().stream().noneMatch(o -> o.mark > t.mark)
                        && people.stream().noneMatch(p -> p.age > t.mark);
                valid += is ? 1 : 0;
            }
            return valid;
        }
    }

    private World world = new World(2, new int[6]);
    private final Deque<World> kept = new ArrayDeque<>();
    private byte[] tape = new byte[0];
    private int faultKind;
    private int faultPlace;

    int feed(int a, int b, int c, int d, int e) {
        if (tape.length + 20 > 640) {
            return -1;
        }
        int at = tape.length;
        tape = Arrays.copyOf(tape, at + 20);
        java.nio.ByteBuffer.wrap(tape, at, 20).putInt(a).putInt(b).putInt(c).putInt(d).putInt(e);
        return tape.length;
    }

    boolean end(int n) {
        if (n < 0 || n > tape.length) {
            return false;
        }
        tape = Arrays.copyOf(tape, n);
        return true;
    }

    private static final Pattern RUN = Pattern.compile("[a-z0-9]+|[^ \\n]", Pattern.DOTALL);
    private static final Pattern TOKEN = Pattern.compile("[a-z]+|[0-9]{1,2}|;");

    private List<String> tokens;
    private List<Integer> places;
    private int at;

    int text() {
        String told = new String(tape, java.nio.charset.StandardCharsets.ISO_8859_1);
        tape = new byte[0];
        tokens = new ArrayList<>();
        places = new ArrayList<>();
        Matcher m = RUN.matcher(told);
        while (m.find() && m.start() < 600) {
            tokens.add(m.group());
            places.add(m.start());
        }
        tokens.add(told.length() > 600 ? "TOO LONG" : "END");
        places.add(Math.min(600, told.length()));
        at = 0;
        faultKind = 0;
        int acts = 0;
        try {
            World anew = readHead();
            while (!tokens.get(at).equals("END")) {
                readAct(anew);
                acts++;
            }
            world = anew;
            kept.clear();
            return acts;
        } catch (IllegalArgumentException stop) {
            return -1 - faultPlace;
        }
    }

    private IllegalArgumentException stop(int kind) {
        faultKind = kind;
        faultPlace = places.get(at);
        return new IllegalArgumentException();
    }

    private String word(String... may) {
        if (!Arrays.asList(may).contains(tokens.get(at))) {
            throw stop(1);
        }
        return tokens.get(at++);
    }

    private int number(int least, int most) {
        String token = tokens.get(at);
        if (!TOKEN.matcher(token).matches() || !Character.isDigit(token.charAt(0))) {
            throw stop(1);
        }
        int number = Integer.parseInt(token);
        if (number < least || number > most) {
            throw stop(2);
        }
        at++;
        return number;
    }

    private World readHead() {
        word("members");
        int n = number(2, 6);
        word(";");
        int[] ranks = new int[6];
        int lines = 0;
        while (tokens.get(at).equals("rank")) {
            if (++lines == 21) {
                throw stop(3);
            }
            at++;
            int m = number(0, n - 1);
            ranks[m] = number(0, 9);
            word(";");
        }
        return new World(n, ranks);
    }

    private void readAct(World anew) {
        String act = word("ask", "leave", "suspect", "send", "lose", "settle");
        int a = act.equals("settle") ? number(1, 99) : number(0, 99);
        int b = act.equals("send") || act.equals("lose") ? number(0, 99) : 0;
        word(";");
        int answer = switch (act) {
            case "ask" -> anew.ask(a);
            case "leave" -> anew.leave(a);
            case "suspect" -> anew.suspect(a);
            case "send" -> anew.send(a, b);
            case "lose" -> anew.lose(a, b);
            default -> anew.settle(a);
        };
        if (answer < 0) {
            at--;
            throw stop(4);
        }
    }

    int fault() {
        return faultKind;
    }

    int now(int what) {
        int asks = 0;
        int in = 0;
        int has = 0;
        for (int m = 0; m < world.people.size(); m++) {
            asks += world.people.get(m).asks ? 1 << m : 0;
            in += world.people.get(m).in ? 1 << m : 0;
            has += world.people.get(m).token != null ? 1 << m : 0;
        }
        int[] all = {world.people.size(), world.messages(), world.tokens().size(), world.valid(), world.died,
            world.made, world.lost, world.left, asks, in, has, kept.size(), tape.length};
        return what >= 0 && what < all.length ? all[what] : -1;
    }

    int member(int member, int what) {
        if (!world.exists(member)) {
            return Check.THROWN;
        }
        Person p = world.people.get(member);
        int voters = 0;
        for (int v : p.ballots.keySet()) {
            voters += 1 << v;
        }
        int[] all = {p.rank, p.number, p.served, p.age, p.asks ? 1 : 0, p.in ? 1 : 0,
            p.token == null ? 0 : p.token.mark, p.collects, voters};
        if (what >= 0 && what < all.length) {
            return all[what];
        }
        for (int o = 0; o < world.people.size(); o++) {
            if (what == 10 + o) {
                return o == member ? p.number : p.seen[o];
            }
            if (what == 20 + o) {
                return p.known[o];
            }
            if (what == 30 + o) {
                return p.row[o];
            }
        }
        return Check.THROWN;
    }

    int pass(int member, int what) {
        if (!world.exists(member) || world.people.get(member).token == null) {
            return -1;
        }
        Token t = world.people.get(member).token;
        if (what == 0) {
            return t.queue.size();
        }
        for (int k = 0; k < 6; k++) {
            if (what == 10 + k && world.exists(k)) {
                return t.last.get(k);
            }
            if (what == 20 + k && k < t.queue.size()) {
                return t.queue.get(k).who;
            }
            if (what == 30 + k && k < t.queue.size()) {
                return t.queue.get(k).waits;
            }
        }
        return -1;
    }

    int way(int from, int to) {
        return world.exists(from) && world.exists(to) && from != to ? world.letters(from, to).size() : -1;
    }

    int message(int from, int to, int k, int what) {
        List<Letter> letters = new ArrayList<>(world.letters(from, to));
        if (k < 0 || k >= letters.size() || what < 0 || what > 2) {
            return -1;
        }
        Letter l = letters.get(k);
        return what == 0 ? l.number() : what == 1 ? l.value : l.extra;
    }

    int would(int from, int to) {
        World w = world.copy();
        if (w.send(from, to) == -1) {
            return -1;
        }
        if (w.events.stream().anyMatch(e -> e.startsWith("in"))) {
            return 1;
        }
        return w.events.contains("sent") ? 2 : w.events.contains("died") ? 3 : 0;
    }

    int soon(int member) {
        if (!world.exists(member)) {
            return -1;
        }
        World w = world.copy();
        int messages = 0;
        while (!w.people.get(member).in) {
            if (messages == 200 || !w.settleOnce()) {
                return -2;
            }
            messages++;
        }
        return messages;
    }

    int order(int k) {
        if (k < 0 || k > 19) {
            return -1;
        }
        World w = world.copy();
        List<Integer> order = new ArrayList<>();
        for (int i = 0; i < 200 && w.settleOnce(); i++) {
            for (String e : w.events) {
                if (e.startsWith("in")) {
                    order.add(Integer.parseInt(e.substring(2)));
                }
            }
        }
        return k < order.size() ? order.get(k) : -1;
    }

    private interface Deed {
        int on(World world);
    }

    private int did(Deed deed) {
        World before = world.copy();
        world.events.clear();
        int answer = deed.on(world);
        if (answer >= 0) {
            kept.addLast(before);
            if (kept.size() > 10) {
                kept.removeFirst();
            }
        }
        return answer;
    }

    int ask(int member) {
        return did(w -> w.ask(member));
    }

    int leave(int member) {
        return did(w -> w.leave(member));
    }

    int suspect(int member) {
        return did(w -> w.suspect(member));
    }

    int send(int from, int to) {
        return did(w -> w.send(from, to));
    }

    int lose(int from, int to) {
        return did(w -> w.lose(from, to));
    }

    int settle(int times) {
        return did(w -> w.settle(times));
    }

    int undo() {
        if (kept.isEmpty()) {
            return -1;
        }
        world = kept.removeLast();
        return kept.size();
    }
}
