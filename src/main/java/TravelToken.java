import java.util.NoSuchElementException;

/**
 * A permission that travels between members by messages. The words in capitals (MEMBER, PASS,
 * HANDS ON, ..) are those of the document, which tells what each of them is.
 */
public final class TravelToken {
    public static final int NONE = -1;

    private static final int BUSY = -2;
    private static final int NOT_ASKING = -2;
    private static final int NEVER = -2;
    private static final int TOO_MANY = -3;

    private static final int MOST_MEMBERS = 6;
    private static final int MOST_MESSAGES_ASKED = 40;
    // To LEAVE has no limit of its own: behind the 40 each MEMBER may still send on a PASS it HAS.
    private static final int MOST_MESSAGES = MOST_MESSAGES_ASKED + MOST_MEMBERS;
    private static final int MOST_ON_PAPER = 200;
    private static final int MOST_IN_ORDER = 20;
    private static final int MOST_TIMES = 99;
    private static final int MOST_KEPT = 10;

    private static final int MOST_TAPE_BYTES = 640;
    private static final int MOST_TEXT_BYTES = 600;
    private static final int BYTES_OF_A_FEED = 20;
    private static final int MOST_RANK_LINES = 20;
    // The shortest ACT has six bytes, so a TEXT has no room for as many as these.
    private static final int MOST_ACTS = MOST_TEXT_BYTES / 6;

    private static final int FAULT_TOKEN = 1;
    private static final int FAULT_NUMBER = 2;
    private static final int FAULT_RANK_LINES = 3;
    private static final int FAULT_ACT = 4;

    private static final int REQUEST = 0;
    private static final int PASS = 1;
    private static final int DOUBT = 2;
    private static final int HAVE = 3;
    private static final int VOTE = 4;

    // What member() tells, as far as now() tells it of all.
    private static final int OF_ASKING = 4;
    private static final int OF_BEING_IN = 5;
    private static final int OF_MARK = 6;

    private static final int ACT_ASK = 0;
    private static final int ACT_LEAVE = 1;
    private static final int ACT_SUSPECT = 2;
    private static final int ACT_SEND = 3;
    private static final int ACT_LOSE = 4;
    private static final int ACT_SETTLE = 5;

    private final Tape tape = new Tape();
    private final Script script = new Script();
    private final History history = new History();
    private Net net = new Net();
    private Net paper = new Net();
    private int faultKind = 0;

    public TravelToken() {
    }

    public int feed(int a, int b, int c, int d, int e) {
        if (tape.length + BYTES_OF_A_FEED > MOST_TAPE_BYTES) {
            return NONE;
        }
        tape.add(a);
        tape.add(b);
        tape.add(c);
        tape.add(d);
        tape.add(e);
        return tape.length;
    }

    public boolean end(int n) {
        if (n < 0 || n > tape.length) {
            return false;
        }
        tape.length = n;
        return true;
    }

    public int text() {
        script.read(tape);
        tape.length = 0;
        paper.begin(script.members, script.ranks);
        int done = 0;
        while (done < script.acts
                && paper.act(script.kinds[done], script.firsts[done], script.seconds[done]) >= 0) {
            done++;
        }
        // An ACT that was read whole ends ahead of the place where the reading stopped.
        if (done < script.acts) {
            faultKind = FAULT_ACT;
            return -1 - script.places[done];
        }
        faultKind = script.faultKind;
        if (faultKind != 0) {
            return -1 - script.faultPlace;
        }
        Net former = net;
        net = paper;
        paper = former;
        history.count = 0;
        return done;
    }

    public int fault() {
        return faultKind;
    }

    public int now(int what) {
        switch (what) {
            case 0: return net.size;
            case 1: return net.count;
            case 2: return net.passesFrom(0);
            case 3: return net.passesFrom(net.greatestMark());
            case 4: return net.died;
            case 5: return net.made;
            case 6: return net.lost;
            case 7: return net.left;
            case 8: return net.bitsOf(OF_ASKING);
            case 9: return net.bitsOf(OF_BEING_IN);
            case 10: return net.bitsOf(OF_MARK);
            case 11: return history.count;
            case 12: return tape.length;
            default: return NONE;
        }
    }

    public int member(int member, int what) throws NoSuchElementException {
        int answer = net.ofMember(member, what);
        if (answer == NONE) {
            throw new NoSuchElementException();
        }
        return answer;
    }

    public int pass(int member, int what) {
        return net.ofPass(member, what);
    }

    public int way(int from, int to) {
        return net.countOnWay(from, to);
    }

    public int message(int from, int to, int k, int what) {
        int place = net.find(from, to, k);
        if (place == NONE) {
            return NONE;
        }
        Message found = net.mail[place];
        switch (what) {
            case 0: return found.kind;
            case 1: return found.value;
            case 2: return found.extra;
            default: return NONE;
        }
    }

    public int would(int from, int to) {
        int place = net.find(from, to, 0);
        if (place == NONE) {
            return NONE;
        }
        paper.copyFrom(net);
        paper.deliver(place);
        if (paper.cameIn != NONE) {
            return 1;
        }
        if (paper.sentOn > net.sentOn) {
            return 2;
        }
        return paper.died > net.died ? 3 : 0;
    }

    public int soon(int member) {
        if (!net.isMember(member)) {
            return NONE;
        }
        if (net.all[member].in) {
            return 0;
        }
        paper.copyFrom(net);
        for (int delivered = 1; delivered <= MOST_ON_PAPER; delivered++) {
            if (paper.settleBy(1) == 0) {
                return NEVER;
            }
            if (paper.all[member].in) {
                return delivered;
            }
        }
        return NEVER;
    }

    public int order(int k) {
        if (k < 0 || k >= MOST_IN_ORDER) {
            return NONE;
        }
        paper.copyFrom(net);
        int ahead = 0;
        for (int delivered = 1; delivered <= MOST_ON_PAPER; delivered++) {
            if (paper.settleBy(1) == 0) {
                return NONE;
            }
            if (paper.cameIn != NONE) {
                if (ahead == k) {
                    return paper.cameIn;
                }
                ahead++;
            }
        }
        return NONE;
    }

    public int ask(int member) {
        paper.copyFrom(net);
        return kept(net.askBy(member));
    }

    public int leave(int member) {
        paper.copyFrom(net);
        return kept(net.leaveBy(member));
    }

    public int suspect(int member) {
        paper.copyFrom(net);
        return kept(net.suspectBy(member));
    }

    public int send(int from, int to) {
        paper.copyFrom(net);
        return kept(net.deliverOn(from, to));
    }

    public int lose(int from, int to) {
        paper.copyFrom(net);
        return kept(net.loseOn(from, to));
    }

    public int settle(int times) {
        if (times < 1 || times > MOST_TIMES) {
            return NONE;
        }
        paper.copyFrom(net);
        return kept(net.settleBy(times));
    }

    public int undo() {
        if (history.count == 0) {
            return NONE;
        }
        net = history.takeBack(net);
        return history.count;
    }

    /** The paper holds what was ahead of the act: it is kept for undo(), if the act was not refused. */
    private int kept(int answer) {
        if (answer >= 0) {
            paper = history.keep(paper);
        }
        return answer;
    }

    /** What undo() goes back to, the eldest first. */
    private static final class History {
        final Net[] nets = new Net[MOST_KEPT];
        int count = 0;

        /** Answers a net that is free for another use instead of the one that is kept. */
        Net keep(Net before) {
            if (count < MOST_KEPT) {
                // Made only when first needed: many objects are never asked to keep ten.
                Net free = nets[count] == null ? new Net() : nets[count];
                nets[count] = before;
                count++;
                return free;
            }
            Net eldest = nets[0];
            for (int i = 1; i < MOST_KEPT; i++) {
                nets[i - 1] = nets[i];
            }
            nets[MOST_KEPT - 1] = before;
            return eldest;
        }

        /** Answers the latest net kept; the one that is given up waits in its place for another use. */
        Net takeBack(Net givenUp) {
            if (count == 0) {
                return givenUp;
            }
            count--;
            Net latest = nets[count];
            nets[count] = givenUp;
            return latest;
        }
    }

    /** The bytes that were fed, and the TOKENS that they are. */
    private static final class Tape {
        static final int WORD = 0;
        static final int NUMBER = 1;
        static final int SIGN = 2;
        static final int NO_MORE = 3;
        static final int NO_TOKEN = 4;

        final byte[] bytes = new byte[MOST_TAPE_BYTES];
        int length = 0;
        // The TOKEN that was read latest: what it is, where it begins and ends, its number.
        int kind = NO_MORE;
        int start = 0;
        int stop = 0;
        int value = 0;

        void add(int four) {
            for (int shift = 24; shift >= 0 && length < MOST_TAPE_BYTES; shift -= 8) {
                bytes[length] = (byte) (four >> shift);
                length++;
            }
        }

        void next() {
            start = stop;
            while (start < length && isBlank(bytes[start])) {
                start++;
            }
            if (start >= length || start >= MOST_TEXT_BYTES) {
                kind = length > MOST_TEXT_BYTES ? NO_TOKEN : NO_MORE;
                start = Math.min(length, MOST_TEXT_BYTES);
                stop = start;
                return;
            }
            stop = start;
            int digits = 0;
            value = 0;
            while (stop < length && (isLetter(bytes[stop]) || isDigit(bytes[stop]))) {
                if (isDigit(bytes[stop])) {
                    digits++;
                    value = value * 10 + bytes[stop] - '0';
                }
                stop++;
            }
            kind = kindOfRun(stop - start, digits);
            if (kind == SIGN) {
                stop = start + 1;
            }
        }

        private int kindOfRun(int run, int digits) {
            if (run == 0) {
                return bytes[start] == ';' ? SIGN : NO_TOKEN;
            }
            if (digits == 0) {
                return WORD;
            }
            return digits == run && digits <= 2 ? NUMBER : NO_TOKEN;
        }

        boolean isWord(String word) {
            if (kind != WORD || stop - start != word.length()) {
                return false;
            }
            for (int i = 0; i < word.length(); i++) {
                if (bytes[start + i] != word.charAt(i)) {
                    return false;
                }
            }
            return true;
        }

        private static boolean isBlank(byte b) {
            return b == 32 || b == 10;
        }

        private static boolean isLetter(byte b) {
            return b >= 'a' && b <= 'z';
        }

        private static boolean isDigit(byte b) {
            return b >= '0' && b <= '9';
        }
    }

    /** What a tape says as a TEXT: all of it, or what stands ahead of the first FAULT of kinds 1 to 3. */
    private static final class Script {
        final int[] ranks = new int[MOST_MEMBERS];
        final int[] kinds = new int[MOST_ACTS];
        final int[] firsts = new int[MOST_ACTS];
        final int[] seconds = new int[MOST_ACTS];
        final int[] places = new int[MOST_ACTS];
        int members = 0;
        int acts = 0;
        int faultKind = 0;
        int faultPlace = 0;

        void read(Tape tape) {
            for (int i = 0; i < MOST_MEMBERS; i++) {
                ranks[i] = 0;
            }
            members = 0;
            acts = 0;
            faultKind = 0;
            faultPlace = 0;
            tape.stop = 0;
            if (readMembers(tape) && readRanks(tape)) {
                readActs(tape);
            }
        }

        private boolean readMembers(Tape tape) {
            tape.next();
            if (!tape.isWord("members")) {
                return refuse(FAULT_TOKEN, tape);
            }
            if (!readNumber(tape, 2, MOST_MEMBERS)) {
                return false;
            }
            members = tape.value;
            return readSign(tape);
        }

        /** Leaves the tape at the TOKEN behind the 'rank' lines. */
        private boolean readRanks(Tape tape) {
            tape.next();
            for (int lines = 0; lines <= MOST_RANK_LINES && tape.isWord("rank"); lines++) {
                if (lines == MOST_RANK_LINES) {
                    return refuse(FAULT_RANK_LINES, tape);
                }
                if (!readNumber(tape, 0, members - 1)) {
                    return false;
                }
                int ranked = tape.value;
                if (!readNumber(tape, 0, 9)) {
                    return false;
                }
                ranks[ranked] = tape.value;
                if (!readSign(tape)) {
                    return false;
                }
                tape.next();
            }
            return true;
        }

        private void readActs(Tape tape) {
            while (acts < MOST_ACTS && tape.kind != Tape.NO_MORE) {
                if (!readAct(tape)) {
                    return;
                }
                acts++;
                tape.next();
            }
        }

        private boolean readAct(Tape tape) {
            int kind = actOf(tape);
            if (kind == NONE) {
                return refuse(FAULT_TOKEN, tape);
            }
            if (!readNumber(tape, kind == ACT_SETTLE ? 1 : 0, MOST_TIMES)) {
                return false;
            }
            int first = tape.value;
            int second = 0;
            if (kind == ACT_SEND || kind == ACT_LOSE) {
                if (!readNumber(tape, 0, 99)) {
                    return false;
                }
                second = tape.value;
            }
            if (!readSign(tape)) {
                return false;
            }
            kinds[acts] = kind;
            firsts[acts] = first;
            seconds[acts] = second;
            places[acts] = tape.start;
            return true;
        }

        private static int actOf(Tape tape) {
            if (tape.isWord("ask")) {
                return ACT_ASK;
            }
            if (tape.isWord("leave")) {
                return ACT_LEAVE;
            }
            if (tape.isWord("suspect")) {
                return ACT_SUSPECT;
            }
            if (tape.isWord("send")) {
                return ACT_SEND;
            }
            if (tape.isWord("lose")) {
                return ACT_LOSE;
            }
            return tape.isWord("settle") ? ACT_SETTLE : NONE;
        }

        private boolean readNumber(Tape tape, int least, int most) {
            tape.next();
            if (tape.kind != Tape.NUMBER) {
                return refuse(FAULT_TOKEN, tape);
            }
            if (tape.value < least || tape.value > most) {
                return refuse(FAULT_NUMBER, tape);
            }
            return true;
        }

        private boolean readSign(Tape tape) {
            tape.next();
            return tape.kind == Tape.SIGN || refuse(FAULT_TOKEN, tape);
        }

        private boolean refuse(int kind, Tape tape) {
            faultKind = kind;
            faultPlace = tape.start;
            return false;
        }
    }

    /** A PASS, HAD or sent. */
    private static final class Pass {
        final int[] last = new int[MOST_MEMBERS];
        final int[] queue = new int[MOST_MEMBERS];
        final int[] waits = new int[MOST_MEMBERS];
        int mark = 0;
        int length = 0;

        void begin(int newMark) {
            mark = newMark;
            length = 0;
            for (int i = 0; i < MOST_MEMBERS; i++) {
                last[i] = 0;
            }
        }

        void copyFrom(Pass other) {
            mark = other.mark;
            length = other.length;
            for (int i = 0; i < MOST_MEMBERS; i++) {
                last[i] = other.last[i];
                queue[i] = other.queue[i];
                waits[i] = other.waits[i];
            }
        }

        int placeInQueue(int member) {
            for (int k = 0; k < length; k++) {
                if (queue[k] == member) {
                    return k;
                }
            }
            return NONE;
        }

        void putBehind(int member) {
            if (length < MOST_MEMBERS) {
                queue[length] = member;
                waits[length] = 0;
                length++;
            }
        }

        void takeOut(int place) {
            if (place < 0 || place >= length) {
                return;
            }
            length--;
            for (int k = place; k < length; k++) {
                queue[k] = queue[k + 1];
                waits[k] = waits[k + 1];
            }
        }

        int placeOfNext(int[] ranks) {
            int best = NONE;
            int most = NONE;
            for (int k = 0; k < length; k++) {
                int weight = ranks[queue[k]] + waits[k];
                if (weight > most) {
                    most = weight;
                    best = k;
                }
            }
            return best;
        }

        void waitOnce() {
            for (int k = 0; k < length; k++) {
                waits[k]++;
            }
        }
    }

    /** What is on its way; its value is NUMBER, MARK or e, its extra what message() tells as 2. */
    private static final class Message {
        final Pass pass = new Pass();
        int from = 0;
        int to = 0;
        int kind = REQUEST;
        int value = 0;
        int extra = 0;

        void copyFrom(Message other) {
            from = other.from;
            to = other.to;
            kind = other.kind;
            value = other.value;
            extra = other.extra;
            if (kind == PASS) {
                pass.copyFrom(other.pass);
            }
        }
    }

    private static final class Member {
        final int[] seen = new int[MOST_MEMBERS];
        final int[] ranks = new int[MOST_MEMBERS];
        final int[] row = new int[MOST_MEMBERS];
        final int[] votes = new int[MOST_MEMBERS];
        final Pass pass = new Pass();
        int number = 0;
        int served = 0;
        int age = 1;
        int collects = 0;
        int voters = 0;
        boolean asks = false;
        boolean in = false;
        boolean has = false;

        void begin(int[] toldRanks) {
            number = 0;
            served = 0;
            age = 1;
            asks = false;
            in = false;
            has = false;
            collectFor(0);
            for (int i = 0; i < MOST_MEMBERS; i++) {
                seen[i] = 0;
                row[i] = 0;
                votes[i] = 0;
                ranks[i] = toldRanks[i];
            }
        }

        void copyFrom(Member other) {
            number = other.number;
            served = other.served;
            age = other.age;
            collects = other.collects;
            voters = other.voters;
            asks = other.asks;
            in = other.in;
            has = other.has;
            if (has) {
                pass.copyFrom(other.pass);
            }
            for (int i = 0; i < MOST_MEMBERS; i++) {
                seen[i] = other.seen[i];
                row[i] = other.row[i];
                votes[i] = other.votes[i];
                ranks[i] = other.ranks[i];
            }
        }

        /** Drops all votes; e is 0, if none are collected from now on. */
        void collectFor(int e) {
            collects = e;
            voters = 0;
        }

        void writeRow() {
            for (int i = 0; i < MOST_MEMBERS; i++) {
                row[i] = pass.last[i];
            }
        }
    }

    /** All MEMBERS and MESSAGES, and what was counted since the TEXT. */
    private static final class Net {
        final Member[] all = new Member[MOST_MEMBERS];
        final Message[] mail = new Message[MOST_MESSAGES];
        // Holds the MESSAGE that is being DELIVERED, so that an answer to it can't overwrite it.
        Message taken = new Message();
        int size = 2;
        int count = 0;
        int died = 0;
        int made = 0;
        int lost = 0;
        int left = 0;
        int sentOn = 0;
        // Who came IN by the latest delivery.
        int cameIn = NONE;

        Net() {
            for (int i = 0; i < MOST_MEMBERS; i++) {
                all[i] = new Member();
            }
            for (int i = 0; i < MOST_MESSAGES; i++) {
                mail[i] = new Message();
            }
            all[0].has = true;
            all[0].pass.mark = 1;
        }

        void begin(int members, int[] ranks) {
            size = members;
            count = 0;
            died = 0;
            made = 0;
            lost = 0;
            left = 0;
            sentOn = 0;
            cameIn = NONE;
            for (int i = 0; i < MOST_MEMBERS; i++) {
                all[i].begin(ranks);
            }
            all[0].has = true;
            all[0].pass.begin(1);
        }

        void copyFrom(Net other) {
            size = other.size;
            count = other.count;
            died = other.died;
            made = other.made;
            lost = other.lost;
            left = other.left;
            sentOn = other.sentOn;
            cameIn = other.cameIn;
            for (int i = 0; i < MOST_MEMBERS; i++) {
                all[i].copyFrom(other.all[i]);
            }
            for (int i = 0; i < count && i < MOST_MESSAGES; i++) {
                mail[i].copyFrom(other.mail[i]);
            }
        }

        boolean isMember(int member) {
            return member >= 0 && member < size;
        }

        /** The MEMBERS of which member() would not tell 0. */
        int bitsOf(int what) {
            int bits = 0;
            for (int i = 0; i < size; i++) {
                bits |= ofMember(i, what) == 0 ? 0 : 1 << i;
            }
            return bits;
        }

        /** The greatest MARK or AGE OF TOKENS there is: a PASS below it is not VALID. */
        int greatestMark() {
            int greatest = 0;
            for (int i = 0; i < size; i++) {
                greatest = Math.max(greatest, all[i].age);
                if (all[i].has) {
                    greatest = Math.max(greatest, all[i].pass.mark);
                }
            }
            for (int i = 0; i < count; i++) {
                if (mail[i].kind == PASS) {
                    greatest = Math.max(greatest, mail[i].pass.mark);
                }
            }
            return greatest;
        }

        /** How many PASSES, HAD or sent, have at least this MARK. */
        int passesFrom(int least) {
            int passes = 0;
            for (int i = 0; i < size; i++) {
                if (all[i].has && all[i].pass.mark >= least) {
                    passes++;
                }
            }
            for (int i = 0; i < count; i++) {
                if (mail[i].kind == PASS && mail[i].pass.mark >= least) {
                    passes++;
                }
            }
            return passes;
        }

        int ofMember(int member, int what) {
            if (!isMember(member)) {
                return NONE;
            }
            Member one = all[member];
            if (what >= 10) {
                return ofOthers(one, what / 10, what % 10);
            }
            switch (what) {
                case 0: return one.ranks[member];
                case 1: return one.number;
                case 2: return one.served;
                case 3: return one.age;
                case OF_ASKING: return one.asks ? 1 : 0;
                case OF_BEING_IN: return one.in ? 1 : 0;
                case OF_MARK: return one.has ? one.pass.mark : 0;
                case 7: return one.collects;
                case 8: return one.voters;
                default: return NONE;
            }
        }

        private int ofOthers(Member one, int table, int other) {
            if (!isMember(other)) {
                return NONE;
            }
            switch (table) {
                case 1: return one.seen[other];
                case 2: return one.ranks[other];
                case 3: return one.row[other];
                default: return NONE;
            }
        }

        int ofPass(int member, int what) {
            if (!isMember(member) || !all[member].has || what < 0) {
                return NONE;
            }
            Pass held = all[member].pass;
            int place = what % 10;
            switch (what / 10) {
                case 0: return place == 0 ? held.length : NONE;
                case 1: return isMember(place) ? held.last[place] : NONE;
                case 2: return place < held.length ? held.queue[place] : NONE;
                case 3: return place < held.length ? held.waits[place] : NONE;
                default: return NONE;
            }
        }

        int countOnWay(int from, int to) {
            if (!isMember(from) || !isMember(to) || from == to) {
                return NONE;
            }
            int onWay = 0;
            for (int i = 0; i < count; i++) {
                if (mail[i].from == from && mail[i].to == to) {
                    onWay++;
                }
            }
            return onWay;
        }

        /** Where in the mail the k-th MESSAGE of a way is. */
        int find(int from, int to, int k) {
            int ahead = 0;
            for (int i = 0; i < count; i++) {
                if (mail[i].from == from && mail[i].to == to) {
                    if (ahead == k) {
                        return i;
                    }
                    ahead++;
                }
            }
            return NONE;
        }

        int act(int kind, int first, int second) {
            switch (kind) {
                case ACT_ASK: return askBy(first);
                case ACT_LEAVE: return leaveBy(first);
                case ACT_SUSPECT: return suspectBy(first);
                case ACT_SEND: return deliverOn(first, second);
                case ACT_LOSE: return loseOn(first, second);
                case ACT_SETTLE: return settleBy(first);
                default: return NONE;
            }
        }

        int askBy(int member) {
            if (!isMember(member)) {
                return NONE;
            }
            Member asker = all[member];
            if (asker.asks || asker.in) {
                return BUSY;
            }
            int more = asker.has ? 0 : size - 1;
            if (count + more > MOST_MESSAGES_ASKED) {
                return TOO_MANY;
            }
            asker.number++;
            asker.seen[member] = asker.number;
            if (asker.has) {
                asker.in = true;
            } else {
                asker.asks = true;
                postToOthers(member, REQUEST, asker.number, asker.ranks[member]);
            }
            return asker.number;
        }

        int leaveBy(int member) {
            if (!isMember(member) || !all[member].in) {
                return NONE;
            }
            Member leaver = all[member];
            leaver.in = false;
            leaver.served = leaver.number;
            left++;
            if (!leaver.has) {
                return member;
            }
            leaver.pass.last[member] = leaver.served;
            return handOn(member);
        }

        int suspectBy(int member) {
            if (!isMember(member)) {
                return NONE;
            }
            Member doubter = all[member];
            if (!doubter.asks) {
                return NOT_ASKING;
            }
            if (count + size - 1 > MOST_MESSAGES_ASKED) {
                return TOO_MANY;
            }
            doubter.age++;
            doubter.collectFor(doubter.age);
            postToOthers(member, DOUBT, doubter.age, 0);
            return doubter.age;
        }

        int deliverOn(int from, int to) {
            return deliver(find(from, to, 0));
        }

        int loseOn(int from, int to) {
            int place = find(from, to, 0);
            if (place == NONE) {
                return NONE;
            }
            lost++;
            take(place);
            return taken.kind;
        }

        int settleBy(int times) {
            for (int delivered = 0; delivered < times; delivered++) {
                for (int i = 0; i < size; i++) {
                    leaveBy(i);
                }
                if (count == 0) {
                    return delivered;
                }
                deliver(0);
            }
            return times;
        }

        int deliver(int place) {
            if (place < 0 || place >= count) {
                return NONE;
            }
            cameIn = NONE;
            take(place);
            Member here = all[taken.to];
            switch (taken.kind) {
                case REQUEST:
                    takeRequest(here);
                    break;
                case PASS:
                    takePass(here);
                    break;
                case DOUBT:
                    takeDoubt(here);
                    break;
                case HAVE:
                    takeHave(here);
                    break;
                default:
                    takeVote(here);
                    break;
            }
            return taken.kind;
        }

        private void takeRequest(Member here) {
            here.seen[taken.from] = Math.max(here.seen[taken.from], taken.value);
            here.ranks[taken.from] = taken.extra;
            if (here.has && !here.in) {
                handOn(taken.to);
            }
        }

        private void takePass(Member here) {
            if (taken.pass.mark < here.age) {
                died++;
                return;
            }
            if (here.has) {
                died++;
            }
            here.has = true;
            here.pass.copyFrom(taken.pass);
            here.age = taken.pass.mark;
            here.collectFor(0);
            here.pass.last[taken.to] = Math.max(here.pass.last[taken.to], here.served);
            here.writeRow();
            if (here.asks) {
                comeIn(taken.to);
            } else if (!here.in) {
                handOn(taken.to);
            }
        }

        private void takeDoubt(Member here) {
            int e = taken.value;
            if (here.has && here.pass.mark >= e - 1) {
                here.pass.mark = Math.max(here.pass.mark, e);
                here.age = Math.max(here.age, e);
                post(taken.to, taken.from, HAVE, e, 0);
            } else if (here.age < e) {
                here.age = e;
                if (here.has) {
                    here.has = false;
                    died++;
                }
                here.collectFor(0);
                post(taken.to, taken.from, VOTE, e, here.served);
            }
        }

        private void takeHave(Member here) {
            if (here.collects == taken.value) {
                here.collectFor(0);
            }
        }

        private void takeVote(Member here) {
            int e = taken.value;
            if (here.collects != e || here.age != e) {
                return;
            }
            here.voters |= 1 << taken.from;
            here.votes[taken.from] = taken.extra;
            if (Integer.bitCount(here.voters) < size - 1) {
                return;
            }
            here.pass.begin(e);
            for (int i = 0; i < size; i++) {
                here.pass.last[i] = i == taken.to ? here.served : here.votes[i];
            }
            here.has = true;
            here.writeRow();
            here.collectFor(0);
            made++;
            comeIn(taken.to);
        }

        private void comeIn(int member) {
            all[member].asks = false;
            all[member].in = true;
            cameIn = member;
        }

        /** Answers to whom the PASS goes: the MEMBER itself, if it stays. */
        private int handOn(int member) {
            Member giver = all[member];
            Pass given = giver.pass;
            given.takeOut(given.placeInQueue(member));
            for (int i = 0; i < size; i++) {
                if (i != member && giver.seen[i] > given.last[i] && given.placeInQueue(i) == NONE) {
                    given.putBehind(i);
                }
            }
            int place = given.placeOfNext(giver.ranks);
            if (place == NONE) {
                return member;
            }
            int next = given.queue[place];
            given.takeOut(place);
            given.waitOnce();
            giver.writeRow();
            giver.has = false;
            sentOn++;
            if (count < MOST_MESSAGES) {
                mail[count].pass.copyFrom(given);
            }
            post(member, next, PASS, given.mark, given.length);
            return next;
        }

        private void postToOthers(int from, int kind, int value, int extra) {
            for (int i = 0; i < size; i++) {
                if (i != from) {
                    post(from, i, kind, value, extra);
                }
            }
        }

        private void post(int from, int to, int kind, int value, int extra) {
            if (count >= MOST_MESSAGES) {
                return;
            }
            Message posted = mail[count];
            posted.from = from;
            posted.to = to;
            posted.kind = kind;
            posted.value = value;
            posted.extra = extra;
            count++;
        }

        private void take(int place) {
            Message former = taken;
            taken = mail[place];
            count--;
            for (int i = place; i < count; i++) {
                mail[i] = mail[i + 1];
            }
            mail[count] = former;
        }
    }
}
