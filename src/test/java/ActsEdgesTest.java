/** The edges of the acts: of whom, how many messages, how many times, how many are kept. */
public final class ActsEdgesTest {
    private static final int[] FAR = {Integer.MIN_VALUE, -100, 100, Integer.MAX_VALUE};

    public static void main(String[] args) {
        askOfEachMember();
        leaveOfEachMember();
        suspectOfEachMember();
        sendAndLoseOfAllPairs();
        askUpTo40Messages();
        suspectUpTo40Messages();
        oneMoreMessageAtATime();
        theHolderAsksBesideFullWays();
        leavingGoesBeyond40();
        theFirstReasonIsTold();
        settleOfEachNumber();
        settleByAsManyAsThereAre();
        settleLeavesAheadOfEach();
        settleOfFullWays();
        undoOfEachCount();
        undoBehindATextOrAFault();
        fiveHundredAndTwelveCalls();
        Check.close();
    }

    private static TravelToken with(int members) {
        return Check.of("members " + members + ";");
    }

    private static void askOfEachMember() {
        for (int n = 2; n <= 6; n++) {
            for (int m = -3; m <= 12; m++) {
                boolean such = m >= 0 && m < n;
                TravelToken x = with(n);
                Check.due("P14 of " + n + ", ask(" + m + ")", x.ask(m), such ? 1 : -1);
                Check.due("P14 messages", x.now(1), such && m != 0 ? n - 1 : 0);
                Check.due("P14 again", x.ask(m), such ? -2 : -1);
                Check.due("P20 kept", x.now(11), such ? 1 : 0);
            }
            for (int m : FAR) {
                Check.due("P14 ask(" + m + ")", with(n).ask(m), -1);
            }
        }
    }

    private static void leaveOfEachMember() {
        for (int n = 2; n <= 6; n++) {
            for (int m = -3; m <= 12; m++) {
                TravelToken x = with(n);
                Check.due("P15 nobody is in, leave(" + m + ")", x.leave(m), -1);
                x.ask(0);
                Check.due("P15 0 is in, leave(" + m + ")", x.leave(m), m == 0 ? 0 : -1);
                Check.due("P15 left", x.now(7), m == 0 ? 1 : 0);
                Check.due("P15 twice", x.leave(m), -1);
            }
            for (int m : FAR) {
                Check.due("P15 leave(" + m + ")", with(n).leave(m), -1);
            }
            // The last MEMBER is one, too.
            TravelToken y = Check.of("members " + n + ";ask " + (n - 1) + ";");
            y.send(n - 1, 0);
            Check.due("P15 the last asks only", y.leave(n - 1), -1);
            y.send(0, n - 1);
            Check.due("P15 the last is in", y.leave(n - 1), n - 1);
        }
    }

    private static void suspectOfEachMember() {
        for (int n = 2; n <= 6; n++) {
            for (int m = -3; m <= 12; m++) {
                boolean such = m >= 0 && m < n;
                TravelToken x = with(n);
                Check.due("P16 nobody asks, suspect(" + m + ")", x.suspect(m), such ? -2 : -1);
                x.ask(m);
                boolean asks = such && m != 0;
                Check.due("P16 it asks, suspect(" + m + ")", x.suspect(m), asks ? 2 : such ? -2 : -1);
                Check.due("P16 messages", x.now(1), asks ? 2 * (n - 1) : 0);
                Check.due("P16 again", x.suspect(m), asks ? 3 : such ? -2 : -1);
            }
            for (int m : FAR) {
                Check.due("P16 suspect(" + m + ")", with(n).suspect(m), -1);
            }
        }
    }

    private static void sendAndLoseOfAllPairs() {
        for (int n = 2; n <= 6; n++) {
            for (int from = -2; from <= 8; from++) {
                for (int to = -2; to <= 8; to++) {
                    boolean there = from == 1 && to >= 0 && to < n && to != 1;
                    TravelToken x = Check.of("members " + n + ";ask 1;");
                    Check.due("P11 would(" + from + ", " + to + ")", x.would(from, to), there ? to == 0 ? 2 : 0 : -1);
                    Check.due("P17 send(" + from + ", " + to + ")", x.send(from, to), there ? 0 : -1);
                    TravelToken y = Check.of("members " + n + ";ask 1;");
                    Check.due("P18 lose(" + from + ", " + to + ")", y.lose(from, to), there ? 0 : -1);
                    Check.due("P18 lost", y.now(6), there ? 1 : 0);
                    Check.due("P18 messages", y.now(1), there ? n - 2 : n - 1);
                    Check.due("P18 there was one only", y.lose(from, to), -1);
                }
            }
            for (int no : FAR) {
                TravelToken x = Check.of("members " + n + ";ask 1;");
                Check.due("P17 send(" + no + ", 0)", x.send(no, 0), -1);
                Check.due("P17 send(1, " + no + ")", x.send(1, no), -1);
                Check.due("P18 lose(" + no + ", 0)", x.lose(no, 0), -1);
                Check.due("P18 lose(1, " + no + ")", x.lose(1, no), -1);
            }
        }
    }

    /** The pass is lost, 1 asks, and there are as many messages of 1 as told; all others are idle. */
    private static TravelToken withMessages(int n, int messages) {
        TravelToken x = Check.of("members " + n + ";ask 1;send 1 0;lose 0 1;");
        // Each loop goes on a few times at most: with a faulty class the test ends, too.
        for (int tries = 0; tries < 50 && x.now(1) < messages; tries++) {
            Check.due("suspect of " + n, x.suspect(1) > 0, true);
        }
        int to = n - 1;
        for (int tries = 0; tries < 50 && x.now(1) > messages; tries++) {
            x.lose(1, n == 2 ? 0 : to);
            to = to == 2 ? n - 1 : to - 1;
        }
        Check.due("so many messages", x.now(1), messages);
        return x;
    }

    private static void askUpTo40Messages() {
        for (int n = 3; n <= 6; n++) {
            int most = 40 - (n - 1);
            TravelToken x = withMessages(n, most);
            Check.due("P14 of " + n + ", 40 are not too many", x.ask(n - 1), 1);
            Check.due("P6 40 messages", x.now(1), 40);
            TravelToken y = withMessages(n, most + 1);
            Check.due("P14 of " + n + ", 41 are too many", y.ask(n - 1), -3);
            Check.due("P14 0, too, that has no pass", y.ask(0), -3);
            Check.due("P6 none came", y.now(1), most + 1);
            Check.due("P7 it asks not", y.member(n - 1, 4), 0);
            Check.due("P7 its number stays", y.member(n - 1, 1), 0);
            y.lose(1, n - 1);
            Check.due("P14 with one lost", y.ask(n - 1), 1);
        }
    }

    private static void suspectUpTo40Messages() {
        for (int n = 2; n <= 6; n++) {
            int most = 40 - (n - 1);
            TravelToken x = withMessages(n, most);
            int e = x.member(1, 3) + 1;
            Check.due("P16 of " + n + ", 40 are not too many", x.suspect(1), e);
            Check.due("P6 40 messages", x.now(1), 40);
            Check.due("P16 41 are, and more", x.suspect(1), -3);
            TravelToken y = withMessages(n, most + 1);
            e = y.member(1, 3);
            Check.due("P16 of " + n + ", 41 are too many", y.suspect(1), -3);
            Check.due("P6 none came", y.now(1), most + 1);
            Check.due("P7 the age stays", y.member(1, 3), e);
            Check.due("P7 collects on", y.member(1, 7), e);
            Check.due("P18 one is lost", y.lose(1, 0) >= 0, true);
            Check.due("P16 with one lost", y.suspect(1), e + 1);
        }
    }

    /** Of two MEMBERS each act brings one message: 38, 39, 40, and no 41st. */
    private static void oneMoreMessageAtATime() {
        TravelToken x = Check.of("members 2;ask 0;leave 0;ask 1;send 1 0;send 0 1;ask 0;send 0 1;leave 1;lose 1 0;"
                + "suspect 0;".repeat(38));
        Check.due("P6 38 messages", x.now(1), 38);
        Check.due("P16 39", x.suspect(0), 40);
        Check.due("P14 1 is idle: 40", x.ask(1), 2);
        Check.due("P6 40 messages", x.now(1), 40);
        Check.due("P16 41", x.suspect(0), -3);
        Check.due("P16 41", x.suspect(1), -3);
        x.undo();
        Check.due("P16 40", x.suspect(0), 41);
        Check.due("P14 41", x.ask(1), -3);
        Check.due("P18", x.lose(0, 1), 2);
        Check.due("P14 40", x.ask(1), 2);
    }

    private static void theHolderAsksBesideFullWays() {
        TravelToken x = Check.of("members 2;ask 1;" + "suspect 1;".repeat(39));
        Check.due("P6 40 messages", x.now(1), 40);
        Check.due("P14 0 has the pass and sends none", x.ask(0), 1);
        Check.due("P15 nobody was seen: it stays", x.leave(0), 0);
        Check.due("P14 again", x.ask(0), 2);
        Check.due("P6 40 messages still", x.now(1), 40);
    }

    /** To leave, to settle have no limit: the pass that goes is the 41st message. */
    private static void leavingGoesBeyond40() {
        String text = "members 2;ask 0;ask 1;send 1 0;" + "suspect 1;".repeat(40);
        TravelToken x = Check.of(text);
        Check.due("P6 40 messages", x.now(1), 40);
        Check.due("P15 the pass goes", x.leave(0), 1);
        Check.due("P6 41 messages", x.now(1), 41);
        Check.due("P9 on its way", x.way(0, 1), 1);
        Check.due("P14 0 can't ask", x.ask(0), -3);
        Check.due("P16 1 can't suspect", x.suspect(1), -3);
        Check.due("P17 a doubt makes a vote", x.send(1, 0), 2);
        Check.due("P6 41 still", x.now(1), 41);
        Check.due("P9 two come back", x.way(0, 1), 2);
        Check.due("P10 the second is a vote", x.message(0, 1, 1, 0), 4);
        Check.due("P20", x.undo(), 1);
        Check.due("P20", x.undo(), 0);
        Check.due("P6 40 messages", x.now(1), 40);
        Check.due("P9 nothing comes back", x.way(0, 1), 0);
        TravelToken y = Check.of(text);
        Check.due("P19", y.settle(1), 1);
        Check.due("P6 41 messages", y.now(1), 41);
        Check.due("P10 the pass", y.message(0, 1, 0, 0), 1);
        Check.due("P10 the vote", y.message(0, 1, 1, 0), 4);
    }

    private static void theFirstReasonIsTold() {
        TravelToken x = Check.of("members 6;ask 1;send 1 0;send 0 1;send 1 2;send 1 3;send 1 4;send 1 5;ask 2;ask 3;"
                + "suspect 2;suspect 2;suspect 2;suspect 2;suspect 2;suspect 2;");
        Check.due("P6 40 messages", x.now(1), 40);
        Check.due("P14 no such one", x.ask(6), -1);
        Check.due("P14 no such one", x.ask(-1), -1);
        Check.due("P14 it is in", x.ask(1), -2);
        Check.due("P14 it asks", x.ask(2), -2);
        Check.due("P14 too many", x.ask(4), -3);
        Check.due("P16 no such one", x.suspect(6), -1);
        Check.due("P16 no such one", x.suspect(-1), -1);
        Check.due("P16 it is in", x.suspect(1), -2);
        Check.due("P16 it does not ask", x.suspect(4), -2);
        Check.due("P16 too many", x.suspect(2), -3);
        Check.due("P16 too many", x.suspect(3), -3);
        Check.due("P20 none of these is kept", x.undo(), -1);
    }

    private static void settleOfEachNumber() {
        for (int times = -5; times <= 110; times++) {
            TravelToken x = Check.of("members 2;ask 0;");
            boolean good = times >= 1 && times <= 99;
            Check.due("P19 settle(" + times + ")", x.settle(times), good ? 0 : -1);
            Check.due("P19 0 left, or not", x.now(7), good ? 1 : 0);
            Check.due("P20 kept, or not", x.now(11), good ? 1 : 0);
        }
        for (int times : FAR) {
            Check.due("P19 settle(" + times + ")", new TravelToken().settle(times), -1);
        }
    }

    /** Request and pass: two messages, and the leaving behind them needs a third time. */
    private static void settleByAsManyAsThereAre() {
        int[] delivered = {1, 2, 2, 2};
        int[] in = {0, 2, 0, 0};
        int[] left = {0, 0, 1, 1};
        for (int times = 1; times <= 4; times++) {
            TravelToken x = Check.of("members 2;ask 1;");
            Check.due("P19 settle(" + times + ")", x.settle(times), delivered[times - 1]);
            Check.due("P19 who is in", x.now(9), in[times - 1]);
            Check.due("P19 left", x.now(7), left[times - 1]);
            Check.due("P19 messages", x.now(1), times == 1 ? 1 : 0);
        }
    }

    private static void settleLeavesAheadOfEach() {
        // 0 leaves ahead of the first delivery: it can't see the request in time, and hands on by that.
        TravelToken x = Check.of("members 3;ask 0;ask 1;settle 1;");
        Check.due("P19 the pass is behind the request to 2", x.now(1), 2);
        Check.due("P10 the pass", x.message(0, 1, 0, 0), 1);
        Check.due("P19 to 2", x.settle(1), 1);
        Check.due("P9 the pass is left", x.way(0, 1), 1);
        // Two are in, one of them without a pass: both leave.
        TravelToken y = Check.of("members 3;ask 0;ask 1;suspect 1;suspect 1;lose 1 0;lose 1 0;lose 1 2;send 1 0;"
                + "send 1 2;send 1 2;send 0 1;send 2 1;send 2 1;");
        Check.due("P6 0 and 1 are in", y.now(9), 3);
        Check.due("P6 1 has a pass", y.now(10), 2);
        Check.due("P19 by none", y.settle(1), 0);
        Check.due("P6 nobody is in", y.now(9), 0);
        Check.due("P6 both left", y.now(7), 2);
    }

    private static void settleOfFullWays() {
        TravelToken x = Check.of("members 2;ask 1;" + "suspect 1;".repeat(39));
        // Each doubt is answered, and the request brings the pass, which is too old when it comes.
        Check.due("P19 forty and forty", x.settle(99), 80);
        Check.due("P6 none is left", x.now(1), 0);
        Check.due("P7 1 suspected 39 times", x.member(1, 3), 40);
        Check.due("P6 the pass died", x.now(4), 1);
        Check.due("P6 the last vote made another", x.now(5), 1);
        Check.due("P6 1 was served by that", x.now(7), 1);
        TravelToken y = Check.of("members 2;ask 1;" + "suspect 1;".repeat(39));
        Check.due("P12 the last of them", y.soon(1), 80);
        Check.due("P13 the first and only", y.order(0), 1);
        Check.due("P13 no other", y.order(1), -1);
    }

    /** Acts are ask() and leave() in turn: the NUMBER tells to which of them undo() goes back. */
    private static void undoOfEachCount() {
        for (int acts = 0; acts <= 25; acts++) {
            TravelToken x = new TravelToken();
            for (int i = 0; i < acts; i++) {
                Check.due("act", i % 2 == 0 ? x.ask(0) : x.leave(0) + i / 2 + 1, i / 2 + 1);
            }
            int kept = Math.min(acts, 10);
            Check.due("P6 can be undone behind " + acts, x.now(11), kept);
            for (int i = 1; i <= kept; i++) {
                Check.due("P20 how many more", x.undo(), kept - i);
                Check.due("P6 how many more", x.now(11), kept - i);
                Check.due("P7 number", x.member(0, 1), (acts - i + 1) / 2);
                Check.due("P7 served", x.member(0, 2), (acts - i) / 2);
                Check.due("P6 in", x.now(9), (acts - i) % 2);
            }
            Check.due("P20 none is", x.undo(), -1);
            Check.due("P20 none is", x.undo(), -1);
            Check.due("P7 number", x.member(0, 1), (acts - kept + 1) / 2);
            Check.due("P14 goes on", x.ask(0), (acts - kept) % 2 == 0 ? (acts - kept) / 2 + 1 : -2);
        }
    }

    private static void undoBehindATextOrAFault() {
        TravelToken x = new TravelToken();
        for (int i = 0; i < 12; i++) {
            x.settle(1);
        }
        Check.due("P6 ten", x.now(11), 10);
        Check.due("P4 a fault", Check.read(x, "members 7;"), -9);
        Check.due("P6 ten still", x.now(11), 10);
        Check.due("P4 a fault of an act", Check.read(x, "members 2;ask 0;ask 0;"), -22);
        Check.due("P6 ten still", x.now(11), 10);
        Check.due("P20 nine more", x.undo(), 9);
        Check.due("P4 a text", Check.read(x, "members 2;ask 0;leave 0;"), 2);
        Check.due("P6 none", x.now(11), 0);
        Check.due("P20 none is", x.undo(), -1);
        Check.due("P7 the acts of a text can't be undone", x.member(0, 2), 1);
        Check.due("P14", x.ask(0), 2);
        Check.due("P20", x.undo(), 0);
        Check.due("P20 none is", x.undo(), -1);
    }

    private static void fiveHundredAndTwelveCalls() {
        TravelToken x = new TravelToken();
        for (int i = 1; i <= 255; i++) {
            Check.due("P14 call " + (2 * i - 1), x.ask(0), i);
            Check.due("P15 call " + 2 * i, x.leave(0), 0);
        }
        Check.due("call 511", x.now(11), 10);
        Check.due("call 512", x.member(0, 2), 255);
    }
}
