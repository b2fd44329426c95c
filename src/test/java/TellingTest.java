/** Promises 1 (a new object), 6 (now), 7 (member), 8 (pass), 9 (way), 10 (message). */
public final class TellingTest {
    private static final int[] NO_NUMBERS = {-1, -2, -10, Integer.MIN_VALUE, Integer.MAX_VALUE, 1000};

    public static void main(String[] args) {
        aNewObject();
        nowOfManyKinds();
        nowOfPasses();
        memberOfManyKinds();
        memberThrows();
        passWithAQueue();
        passIsNone();
        ways();
        messagesOfAllKinds();
        messageIsNone();
        Check.close();
    }

    private static void nowIsDue(String where, TravelToken x, int... due) {
        for (int what = 0; what < due.length; what++) {
            Check.due("P6 " + where + ", now(" + what + ")", x.now(what), due[what]);
        }
    }

    private static void memberIsDue(String where, TravelToken x, int member, int... due) {
        for (int what = 0; what < due.length; what++) {
            Check.due("P7 " + where + ", member(" + member + ", " + what + ")",
                    Check.member(x, member, what), due[what]);
        }
    }

    private static void aNewObject() {
        TravelToken x = new TravelToken();
        nowIsDue("new", x, 2, 0, 1, 1, 0, 0, 0, 0, 0, 0, 1, 0, 0);
        memberIsDue("new", x, 0, 0, 0, 0, 1, 0, 0, 1, 0, 0);
        memberIsDue("new", x, 1, 0, 0, 0, 1, 0, 0, 0, 0, 0);
        for (int table = 10; table <= 30; table += 10) {
            for (int m = 0; m < 4; m++) {
                Check.due("P1 member " + (table + m / 2), Check.member(x, m % 2, table + m / 2), 0);
            }
        }
        Check.due("P1 no queue", x.pass(0, 0), 0);
        Check.due("P1 last of 0", x.pass(0, 10), 0);
        Check.due("P1 last of 1", x.pass(0, 11), 0);
        Check.due("P1 1 has none", x.pass(1, 0), -1);
        Check.due("P1 nothing to undo", x.undo(), -1);
        Check.due("P1 no fault", x.fault(), 0);
        Check.due("P1 an empty tape is no text", x.text(), -1);
    }

    private static void nowOfManyKinds() {
        TravelToken x = Check.of("members 3;ask 0;ask 1;ask 2;");
        nowIsDue("three ask", x, 3, 4, 1, 1, 0, 0, 0, 0, 6, 1, 1, 0, 0);
        x.suspect(1);
        nowIsDue("1 suspects: an age above the mark", x, 3, 6, 1, 0, 0, 0, 0, 0, 6, 1, 1, 1, 0);
        x.lose(1, 2);
        nowIsDue("one lost", x, 3, 5, 1, 0, 0, 0, 1, 0, 6, 1, 1, 2, 0);
        x.send(1, 0);
        x.send(1, 0);
        nowIsDue("0 raised its mark, and said so", x, 3, 4, 1, 1, 0, 0, 1, 0, 6, 1, 1, 4, 0);
        x.leave(0);
        nowIsDue("the pass is sent", x, 3, 5, 1, 1, 0, 0, 1, 1, 6, 0, 0, 5, 0);
        x.feed(0, 0, 0, 0, 0);
        Check.due("P6 bytes", x.now(12), 20);
        Check.due("P6 now(13)", x.now(13), -1);
        for (int what : NO_NUMBERS) {
            Check.due("P6 now(" + what + ")", x.now(what), -1);
        }
    }

    /** The pass is sent to 1, and while it is on its way 2 gets all votes for another one. */
    private static void nowOfPasses() {
        TravelToken x = Check.of("members 3;ask 1;send 1 0;ask 2;suspect 2;send 2 0;send 2 0;send 2 1;send 2 1;");
        nowIsDue("one old pass", x, 3, 4, 1, 0, 0, 0, 0, 0, 6, 0, 0, 0, 0);
        x.send(0, 2);
        Check.due("P7 one vote", x.member(2, 8), 1);
        x.send(1, 2);
        x.send(1, 2);
        nowIsDue("an old and a new pass", x, 3, 1, 2, 1, 0, 1, 0, 0, 2, 4, 4, 3, 0);
        x.send(0, 1);
        nowIsDue("the old one died", x, 3, 0, 1, 1, 1, 1, 0, 0, 2, 4, 4, 4, 0);
        Check.due("P15 the new one goes to 1", x.leave(2), 1);
        x.lose(2, 1);
        nowIsDue("a lost pass did not die", x, 3, 0, 0, 0, 1, 1, 1, 1, 2, 0, 0, 6, 0);
    }

    private static void memberOfManyKinds() {
        TravelToken x = Check.of("members 3;rank 0 4;rank 1 9;ask 0;leave 0;ask 0;ask 2;ask 1;send 2 0;send 2 1;send 1 2;");
        memberIsDue("in for the second time", x, 0, 4, 2, 1, 1, 0, 1, 1, 0, 0);
        memberIsDue("asks", x, 1, 9, 1, 0, 1, 1, 0, 0, 0, 0);
        int[][] seen = {{2, 0, 1}, {0, 1, 1}, {0, 1, 1}};
        int[] ranks = {4, 9, 0};
        for (int m = 0; m < 3; m++) {
            for (int other = 0; other < 3; other++) {
                Check.due("P7 " + m + " saw of " + other, Check.member(x, m, 10 + other), seen[m][other]);
                Check.due("P7 " + m + " knows of " + other, Check.member(x, m, 20 + other), ranks[other]);
                Check.due("P7 row", Check.member(x, m, 30 + other), 0);
            }
        }
        Check.due("P15 the pass goes to 2", x.leave(0), 2);
        memberIsDue("left", x, 0, 4, 2, 2, 1, 0, 0, 0, 0, 0);
        Check.due("P7 row of 0 as it was sent", Check.member(x, 0, 30), 2);
        x.suspect(1);
        memberIsDue("suspects", x, 1, 9, 1, 0, 2, 1, 0, 0, 2, 0);
        x.send(1, 2);
        memberIsDue("voted", x, 2, 0, 1, 0, 2, 1, 0, 0, 0, 0);
        x.send(2, 1);
        memberIsDue("has a vote", x, 1, 9, 1, 0, 2, 1, 0, 0, 2, 4);
    }

    private static void memberThrows() {
        TravelToken x = Check.of("members 3;");
        Check.due("P7 the last member", Check.member(x, 2, 0), 0);
        Check.due("P7 no member 3", Check.member(x, 3, 0), Check.THROWN);
        Check.due("P7 what 9", Check.member(x, 0, 9), Check.THROWN);
        for (int table = 10; table <= 30; table += 10) {
            Check.due("P7 of the last", Check.member(x, 0, table + 2), 0);
            Check.due("P7 of no member", Check.member(x, 0, table + 3), Check.THROWN);
            Check.due("P7 of no member", Check.member(x, 0, table + 9), Check.THROWN);
        }
        Check.due("P7 what 40", Check.member(x, 0, 40), Check.THROWN);
        for (int no : NO_NUMBERS) {
            Check.due("P7 member(" + no + ", 0)", Check.member(x, no, 0), Check.THROWN);
            Check.due("P7 member(0, " + no + ")", Check.member(x, 0, no), Check.THROWN);
        }
    }

    private static void passWithAQueue() {
        TravelToken x = Check.of("members 4;rank 1 1;rank 2 3;rank 3 2;"
                + "ask 0;ask 1;ask 2;ask 3;send 1 0;send 2 0;send 3 0;leave 0;");
        Check.due("P8 0 has none any more", x.pass(0, 0), -1);
        Check.due("P10 a pass", x.message(0, 2, 0, 0), 1);
        Check.due("P10 its mark", x.message(0, 2, 0, 1), 1);
        Check.due("P10 its queue's length", x.message(0, 2, 0, 2), 2);
        x.send(0, 2);
        int[][] due = {{0, 2}, {10, 1}, {11, 0}, {12, 0}, {13, 0}, {14, -1}, {20, 1}, {21, 3}, {22, -1},
            {30, 1}, {31, 1}, {32, -1}, {1, -1}, {9, -1}, {19, -1}, {29, -1}, {39, -1}, {40, -1}, {50, -1}};
        for (int[] row : due) {
            Check.due("P8 pass(2, " + row[0] + ")", x.pass(2, row[0]), row[1]);
        }
        Check.due("P15 3 has the most", x.leave(2), 3);
        x.send(2, 3);
        x.send(2, 3);
        Check.due("P8 one is left", x.pass(3, 0), 1);
        Check.due("P8 it is 1", x.pass(3, 20), 1);
        Check.due("P8 that waited twice", x.pass(3, 30), 2);
        Check.due("P8 2 was served", x.pass(3, 12), 1);
    }

    private static void passIsNone() {
        TravelToken x = Check.of("members 3;");
        Check.due("P8 1 has none", x.pass(1, 0), -1);
        Check.due("P8 no queue", x.pass(0, 20), -1);
        Check.due("P8 no waits", x.pass(0, 30), -1);
        Check.due("P8 last of the last", x.pass(0, 12), 0);
        Check.due("P8 last of no member", x.pass(0, 13), -1);
        Check.due("P8 no member", x.pass(3, 0), -1);
        for (int no : NO_NUMBERS) {
            Check.due("P8 pass(" + no + ", 0)", x.pass(no, 0), -1);
            Check.due("P8 pass(0, " + no + ")", x.pass(0, no), -1);
        }
    }

    private static void ways() {
        TravelToken x = Check.of("members 3;ask 1;suspect 1;ask 2;send 1 2;");
        Check.due("P9 request and doubt", x.way(1, 0), 2);
        Check.due("P9 one was sent", x.way(1, 2), 1);
        Check.due("P9 2 to 0", x.way(2, 0), 1);
        Check.due("P9 2 to 1", x.way(2, 1), 1);
        Check.due("P9 none yet", x.way(0, 1), 0);
        for (int m = -1; m < 4; m++) {
            Check.due("P9 like ones", x.way(m, m), -1);
            Check.due("P9 no such from", x.way(3, m), -1);
            Check.due("P9 no such to", x.way(m, 3), -1);
            Check.due("P9 no such from", x.way(-1, m), -1);
            Check.due("P9 no such to", x.way(m, -1), -1);
        }
        Check.due("P9 great numbers", x.way(Integer.MAX_VALUE, Integer.MIN_VALUE), -1);
    }

    private static void messageIsDue(TravelToken x, int from, int to, int k, int... due) {
        for (int what = 0; what < 3; what++) {
            Check.due("P10 message(" + from + ", " + to + ", " + k + ", " + what + ")",
                    x.message(from, to, k, what), due[what]);
        }
    }

    private static void messagesOfAllKinds() {
        TravelToken x = Check.of("members 3;rank 1 7;ask 0;leave 0;ask 0;ask 1;suspect 1;suspect 1;send 1 0;");
        messageIsDue(x, 1, 0, 0, 2, 2, 0);
        messageIsDue(x, 1, 0, 1, 2, 3, 0);
        messageIsDue(x, 1, 2, 0, 0, 1, 7);
        messageIsDue(x, 1, 2, 1, 2, 2, 0);
        messageIsDue(x, 1, 2, 2, 2, 3, 0);
        x.send(1, 0);
        messageIsDue(x, 0, 1, 0, 3, 2, 0);
        x.leave(0);
        messageIsDue(x, 0, 1, 1, 1, 2, 0);
        x.send(1, 0);
        messageIsDue(x, 0, 1, 2, 4, 3, 2);
        x.send(0, 1);
        messageIsDue(x, 0, 1, 0, 1, 2, 0);
    }

    private static void messageIsNone() {
        TravelToken x = Check.of("members 3;ask 1;");
        messageIsDue(x, 1, 0, 0, 0, 1, 0);
        Check.due("P10 what 3", x.message(1, 0, 0, 3), -1);
        Check.due("P10 k 1", x.message(1, 0, 1, 0), -1);
        Check.due("P10 another way", x.message(0, 1, 0, 0), -1);
        Check.due("P10 like ones", x.message(1, 1, 0, 0), -1);
        Check.due("P10 no such one", x.message(1, 3, 0, 0), -1);
        for (int no : NO_NUMBERS) {
            Check.due("P10 from " + no, x.message(no, 0, 0, 0), -1);
            Check.due("P10 to " + no, x.message(1, no, 0, 0), -1);
            Check.due("P10 k " + no, x.message(1, 0, no, 0), -1);
            Check.due("P10 what " + no, x.message(1, 0, 0, no), -1);
        }
    }
}
