/** Promises 14 (ask), 15 (leave), 16 (suspect), 17 (send), 18 (lose), 19 (settle). */
public final class ActsTest {
    private static final int[] NO_MEMBERS = {-1, 3, 99, Integer.MIN_VALUE, Integer.MAX_VALUE};

    public static void main(String[] args) {
        asks();
        asksUpTo40Messages();
        leaves();
        leavesWithoutAPass();
        suspects();
        sends();
        loses();
        settles();
        settlesTheEldestFirst();
        refusedCallsChangeNothing();
        moreThan40ByLeaving();
        Check.close();
    }

    private static void asks() {
        TravelToken x = Check.of("members 3;rank 1 6;");
        for (int no : NO_MEMBERS) {
            Check.due("P14 ask(" + no + ")", x.ask(no), -1);
        }
        Check.due("P14 its number", x.ask(1), 1);
        Check.due("P14 it asks", x.now(8), 2);
        Check.due("P14 to 0", x.way(1, 0), 1);
        Check.due("P14 to 2", x.way(1, 2), 1);
        Check.due("P14 with its rank", x.message(1, 2, 0, 2), 6);
        Check.due("P14 it asks already", x.ask(1), -2);
        Check.due("P14 0 has the pass", x.ask(0), 1);
        Check.due("P14 and is in", x.now(9), 1);
        Check.due("P14 asks not", x.now(8), 2);
        Check.due("P14 and sends none", x.now(1), 2);
        Check.due("P14 it is in already", x.ask(0), -2);
        x.leave(0);
        Check.due("P14 the second number", x.ask(0), 2);
        Check.due("P7 saw its own number", x.member(0, 10), 2);
    }

    private static void asksUpTo40Messages() {
        String thirty = "members 6;ask 1;ask 2;ask 3;ask 4;suspect 1;suspect 2;";
        TravelToken x = Check.of(thirty + "suspect 3;");
        Check.due("P14 35 messages", x.now(1), 35);
        Check.due("P14 40 are not too many", x.ask(5), 1);
        Check.due("P14 40 messages", x.now(1), 40);
        Check.due("P16 45 are", x.suspect(5), -3);
        Check.due("P16 the first that is so", x.suspect(0), -2);
        Check.due("P16 the first that is so", x.suspect(6), -1);
        Check.due("P14 0 sends none", x.ask(0), 1);
        x.lose(1, 0);
        Check.due("P16 44 are, too", x.suspect(5), -3);
        x.lose(1, 0);
        x.lose(1, 2);
        x.lose(1, 2);
        Check.due("P16 36 messages", x.now(1), 36);
        Check.due("P16 41 are, too", x.suspect(5), -3);
        x.lose(1, 3);
        Check.due("P16 40 are not", x.suspect(5), 2);

        TravelToken y = Check.of(thirty + "suspect 3;");
        y.lose(1, 0);
        Check.due("P16 35 with one lost", y.suspect(4), 2);
        Check.due("P14 39 messages", y.now(1), 39);
        Check.due("P14 44 are too many", y.ask(5), -3);
        Check.due("P14 the first that is so", y.ask(4), -2);
        Check.due("P14 the first that is so", y.ask(6), -1);
        y.lose(2, 0);
        y.lose(2, 0);
        y.lose(3, 0);
        Check.due("P14 41 are too many", y.ask(5), -3);
        y.lose(3, 0);
        Check.due("P14 40 are not", y.ask(5), 1);
    }

    private static void leaves() {
        TravelToken x = Check.of("members 3;");
        for (int no : NO_MEMBERS) {
            Check.due("P15 leave(" + no + ")", x.leave(no), -1);
        }
        Check.due("P15 it is not in", x.leave(0), -1);
        x.ask(1);
        Check.due("P15 it asks only", x.leave(1), -1);
        x.ask(0);
        Check.due("P15 nobody was seen: it stays", x.leave(0), 0);
        Check.due("P15 in no more", x.now(9), 0);
        Check.due("P15 has it still", x.now(10), 1);
        Check.due("P15 served", x.member(0, 2), 1);
        Check.due("P15 last", x.pass(0, 10), 1);
        Check.due("P15 left once", x.now(7), 1);
        x.ask(0);
        x.send(1, 0);
        Check.due("P15 1 was seen", x.leave(0), 1);
        Check.due("P15 has it no more", x.now(10), 0);
        Check.due("P15 it is sent", x.way(0, 1), 1);
        Check.due("P15 served", x.member(0, 2), 2);
        Check.due("P15 row", x.member(0, 30), 2);
        Check.due("P15 left twice", x.now(7), 2);
        Check.due("P15 not in any more", x.leave(0), -1);
    }

    /** Its pass died by a doubt far above its mark: who is in stays so, and leaves without a pass. */
    private static void leavesWithoutAPass() {
        TravelToken x = Check.of("members 2;ask 0;ask 1;suspect 1;suspect 1;lose 1 0;lose 1 0;");
        Check.due("P17 a doubt", x.send(1, 0), 2);
        Check.due("P6 died", x.now(4), 1);
        Check.due("P6 no pass", x.now(2), 0);
        Check.due("P6 in still", x.now(9), 1);
        Check.due("P7 age", x.member(0, 3), 3);
        Check.due("P10 vote", x.message(0, 1, 0, 0), 4);
        Check.due("P15 there is none", x.leave(0), 0);
        Check.due("P15 served", x.member(0, 2), 1);
        Check.due("P15 left", x.now(7), 1);
        Check.due("P15 nothing is sent", x.now(1), 1);
        Check.due("P17 the vote", x.send(0, 1), 4);
        Check.due("P8 last as 0 voted", x.pass(1, 10), 0);
        Check.due("P7 mark", x.member(1, 6), 3);
    }

    private static void suspects() {
        TravelToken x = Check.of("members 3;");
        for (int no : NO_MEMBERS) {
            Check.due("P16 suspect(" + no + ")", x.suspect(no), -1);
        }
        Check.due("P16 does not ask", x.suspect(1), -2);
        x.ask(0);
        Check.due("P16 is in", x.suspect(0), -2);
        x.ask(1);
        Check.due("P16 e", x.suspect(1), 2);
        Check.due("P16 age", x.member(1, 3), 2);
        Check.due("P16 collects", x.member(1, 7), 2);
        Check.due("P16 none as yet", x.member(1, 8), 0);
        Check.due("P16 asks still", x.now(8), 2);
        Check.due("P16 to 0", x.message(1, 0, 1, 0), 2);
        Check.due("P16 to 2", x.message(1, 2, 1, 1), 2);
        x.send(1, 2);
        x.send(1, 2);
        x.send(2, 1);
        Check.due("P16 one vote", x.member(1, 8), 4);
        Check.due("P16 another e", x.suspect(1), 3);
        Check.due("P16 collects for it", x.member(1, 7), 3);
        Check.due("P16 votes for the other one are dropped", x.member(1, 8), 0);
    }

    private static void sends() {
        TravelToken x = Check.of("members 3;ask 1;suspect 1;");
        for (int no : NO_MEMBERS) {
            Check.due("P17 send(1, " + no + ")", x.send(1, no), -1);
            Check.due("P17 send(" + no + ", 0)", x.send(no, 0), -1);
        }
        Check.due("P17 like ones", x.send(1, 1), -1);
        Check.due("P17 none there", x.send(0, 1), -1);
        Check.due("P17 request", x.send(1, 0), 0);
        Check.due("P17 pass is sent by it", x.now(10), 0);
        Check.due("P17 doubt", x.send(1, 0), 2);
        Check.due("P17 the pass, too old", x.send(0, 1), 1);
        Check.due("P17 died", x.now(4), 1);
        Check.due("P17 vote", x.send(0, 1), 4);
        Check.due("P17 none there any more", x.send(0, 1), -1);
        TravelToken y = Check.of("members 2;ask 0;ask 1;suspect 1;send 1 0;send 1 0;");
        Check.due("P17 have", y.send(0, 1), 3);
        Check.due("P17 no votes are collected", y.member(1, 7), 0);
        Check.due("P6 nothing is on its way", y.now(1), 0);
    }

    private static void loses() {
        TravelToken x = Check.of("members 3;ask 1;suspect 1;");
        for (int no : NO_MEMBERS) {
            Check.due("P18 lose(1, " + no + ")", x.lose(1, no), -1);
            Check.due("P18 lose(" + no + ", 0)", x.lose(no, 0), -1);
        }
        Check.due("P18 like ones", x.lose(1, 1), -1);
        Check.due("P18 none there", x.lose(0, 1), -1);
        Check.due("P18 a request", x.lose(1, 2), 0);
        Check.due("P18 was not delivered", x.member(2, 11), 0);
        Check.due("P18 the next is first", x.message(1, 2, 0, 0), 2);
        Check.due("P18 a doubt", x.lose(1, 2), 2);
        Check.due("P18 was not delivered", x.member(2, 3), 1);
        Check.due("P18 lost", x.now(6), 2);
        x.send(1, 0);
        x.send(1, 0);
        Check.due("P18 a pass", x.lose(0, 1), 1);
        Check.due("P18 did not die", x.now(4), 0);
        Check.due("P18 is no more", x.now(2), 0);
        Check.due("P18 a vote", x.lose(0, 1), 4);
        Check.due("P18 none there any more", x.lose(0, 1), -1);
        Check.due("P18 lost", x.now(6), 4);
        TravelToken y = Check.of("members 2;ask 0;ask 1;suspect 1;send 1 0;send 1 0;");
        Check.due("P18 a have", y.lose(0, 1), 3);
        Check.due("P18 votes are collected still", y.member(1, 7), 2);
    }

    private static void settles() {
        TravelToken x = Check.of("members 3;ask 0;ask 1;ask 2;");
        for (int no : new int[] {0, -1, 100, Integer.MIN_VALUE, Integer.MAX_VALUE}) {
            Check.due("P19 settle(" + no + ")", x.settle(no), -1);
        }
        Check.due("P19 nothing can be undone", x.now(11), 0);
        Check.due("P19 one", x.settle(1), 1);
        Check.due("P19 0 left first, and then sent the pass", x.message(0, 1, 0, 0), 1);
        Check.due("P19 0 left", x.now(7), 1);
        Check.due("P19 three and the pass are on their way", x.now(1), 4);
        Check.due("P19 up to the pass", x.settle(4), 4);
        Check.due("P19 1 came in", x.now(9), 2);
        Check.due("P19 it has not left", x.now(7), 1);
        Check.due("P19 1 leaves, its pass is delivered", x.settle(99), 1);
        Check.due("P19 2 left, too, ahead of the end", x.now(9), 0);
        Check.due("P19 three left", x.now(7), 3);
        Check.due("P19 2 has the pass", x.now(10), 4);
        Check.due("P19 by none", x.settle(99), 0);
    }

    private static void settlesTheEldestFirst() {
        TravelToken x = Check.of("members 4;ask 3;ask 1;ask 2;");
        int[][] due = {{3, 0}, {3, 1}, {3, 2}, {1, 0}, {1, 2}, {1, 3}, {2, 0}, {2, 1}, {2, 3}};
        for (int[] way : due) {
            int before = x.way(way[0], way[1]);
            Check.due("P19 settle", x.settle(1), 1);
            Check.due("P19 of " + way[0] + " to " + way[1], x.way(way[0], way[1]), before - 1);
        }
        Check.due("P19 the pass was sent to 3 with the first", x.message(0, 3, 0, 0), 1);
        Check.due("P19 it is the last", x.now(1), 1);
        x.settle(1);
        Check.due("P19 3 is in", x.now(9), 8);
    }

    private static void refusedCallsChangeNothing() {
        TravelToken x = Check.of("members 3;ask 0;ask 1;suspect 1;send 1 0;");
        String before = Check.dump(x);
        x.ask(0);
        x.ask(1);
        x.ask(3);
        x.leave(1);
        x.suspect(0);
        x.suspect(-1);
        x.send(0, 1);
        x.lose(2, 1);
        x.settle(0);
        x.settle(100);
        Check.member(x, 5, 0);
        Check.same("refused calls", Check.dump(x), before);
        Check.due("refused calls are not kept", x.now(11), 0);
    }

    /** To leave has no limit: the pass is the 41st message. */
    private static void moreThan40ByLeaving() {
        TravelToken x = Check.of("members 6;ask 0;ask 1;send 1 0;ask 2;ask 3;ask 4;ask 5;lose 2 0;"
                + "suspect 1;suspect 2;suspect 3;");
        Check.due("38 messages", x.now(1), 38);
        x.lose(3, 0);
        x.lose(3, 1);
        x.lose(3, 2);
        Check.due("P16 40", x.suspect(4), 2);
        Check.due("40 messages", x.now(1), 40);
        Check.due("P15 the pass goes", x.leave(0), 1);
        Check.due("P6 41 messages", x.now(1), 41);
        Check.due("P17 it comes", x.send(0, 1), 1);
        Check.due("P17 too late: 1 suspected", x.now(4), 1);
        Check.due("P6 40 messages", x.now(1), 40);
    }
}
