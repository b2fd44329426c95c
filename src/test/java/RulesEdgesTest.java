/** The edges of the rules: of handing on, of what dies, stays, is dropped, of votes, of what is VALID. */
public final class RulesEdgesTest {
    public static void main(String[] args) {
        messagesComeInOrder();
        toAllOthersByNumbers();
        seenAboveLast();
        anAskerMayWaitItsTurnTwice();
        waitsAgainstRanks();
        likeOnesTheFirst();
        rankAndWaitsTogether();
        onlyTheHolderThatIsNotInHandsOn();
        withoutAnyThePassStays();
        leavingWithoutAPass();
        markAgainstAge();
        servedIfThatIsMore();
        aPassForOneThatIsIn();
        doubtAgainstMark();
        doubtAgainstAge();
        doubtEndsVotes();
        haveOfThatEAlone();
        voteOfThatEAlone();
        votesOfAllOthersOfEachSize();
        votesOfMembersThatWereServed();
        validOnes();
        wouldOfEachAnswer();
        soonAndOrderAsSettled();
        Check.close();
    }

    private static void messagesComeInOrder() {
        TravelToken x = Check.of("members 2;ask 0;ask 1;suspect 1;suspect 1;");
        int[] kinds = {0, 2, 2};
        for (int kind : kinds) {
            Check.due("P17 in order", x.send(1, 0), kind);
        }
        Check.due("P17 no more", x.send(1, 0), -1);
        Check.due("P10 the haves in order", x.message(0, 1, 0, 1), 2);
        Check.due("P10 the haves in order", x.message(0, 1, 1, 1), 3);
    }

    private static void toAllOthersByNumbers() {
        for (int n = 2; n <= 6; n++) {
            for (int asker = 1; asker < n; asker++) {
                TravelToken x = Check.of("members " + n + ";ask 0;ask " + asker + ";suspect " + asker + ";");
                for (int round = 1; round <= 2; round++) {
                    for (int to = 0; to < n; to++) {
                        if (to != asker) {
                            Check.due("by numbers", x.way(asker, to), 3 - round);
                            x.settle(1);
                            Check.due("by numbers", x.way(asker, to), 2 - round);
                        }
                    }
                }
            }
        }
    }

    private static void seenAboveLast() {
        // SEEN is LAST: the request comes behind the pass that served it.
        TravelToken x = Check.of("members 3;ask 1;send 1 0;send 0 1;leave 1;ask 2;send 2 1;lose 2 0;send 1 2;send 1 2;");
        Check.due("seen", x.member(2, 11), 1);
        Check.due("last", x.pass(2, 11), 1);
        Check.due("P15 like: it stays", x.leave(2), 2);
        // SEEN is one above LAST.
        x.ask(1);
        Check.due("P17", x.send(1, 2), 0);
        Check.due("one above: it goes", x.way(2, 1), 1);
        Check.due("P10 it goes", x.message(2, 1, 0, 0), 1);
        // SEEN is two above LAST: it comes to the QUEUE once.
        TravelToken y = Check.of("members 2;ask 0;ask 1;suspect 1;suspect 1;lose 1 0;lose 1 0;send 1 0;send 0 1;"
                + "leave 1;leave 0;ask 1;leave 1;ask 0;send 0 1;");
        Check.due("0 saw none of two askings", y.member(0, 11), 0);
        Check.due("P10 the pass", y.message(1, 0, 0, 0), 1);
        y.send(1, 0);
        Check.due("last is ahead of seen", y.pass(0, 11), 2);
        Check.due("P15 it stays", y.leave(0), 0);
        // Its own SEEN is above LAST, but it is no other MEMBER.
        TravelToken z = Check.of("members 2;ask 0;leave 0;");
        Check.due("P8 last of 0", z.pass(0, 10), 1);
        z.ask(1);
        z.send(1, 0);
        Check.due("P10 no queue", z.message(0, 1, 0, 2), 0);
    }

    /** Who is in the QUEUE stays in its place and does not come to it twice. */
    private static void anAskerMayWaitItsTurnTwice() {
        TravelToken x = Check.of("members 4;rank 2 5;ask 0;ask 1;ask 2;ask 3;send 1 0;send 2 0;send 3 0;"
                + "send 1 2;send 3 2;leave 0;send 0 2;");
        Check.due("P8 two wait", x.pass(2, 0), 2);
        Check.due("P15", x.leave(2), 1);
        x.send(2, 1);
        x.send(2, 1);
        x.send(3, 1);
        Check.due("P8 one waits", x.pass(1, 0), 1);
        Check.due("P8 it is 3", x.pass(1, 20), 3);
        Check.due("P8 waited twice", x.pass(1, 30), 2);
    }

    /** 1 of RANK 0 waits while 0 and 2 of RANK 9 take turns: it is like them after nine, and first. */
    private static void waitsAgainstRanks() {
        TravelToken x = Check.of("members 3;rank 0 9;rank 2 9;ask 0;ask 1;ask 2;send 1 0;send 2 0;lose 1 2;");
        int here = 0;
        for (int turns = 1; turns <= 9; turns++) {
            int next = 2 - here;
            Check.due("P15 9 is above " + (turns - 1), x.leave(here), next);
            x.ask(here);
            x.lose(here, 1);
            x.send(here, next);
            Check.due("P8 1 alone waits", x.pass(next, 0), 1);
            Check.due("P8 so often", x.pass(next, 30), turns);
            x.send(here, next);
            here = next;
        }
        Check.due("P15 9 is like 9: the first", x.leave(here), 1);
    }

    private static void likeOnesTheFirst() {
        // 3 is ahead in the QUEUE of a lower number that is like it: 0 and 1 wait against RANK 1.
        TravelToken x = Check.of("members 4;rank 1 1;rank 2 9;ask 0;ask 2;ask 3;send 2 0;send 3 0;leave 0;send 0 2;"
                + "ask 1;send 1 2;");
        Check.due("P8 3 waits", x.pass(2, 20), 3);
        Check.due("P8 once", x.pass(2, 30), 1);
        Check.due("P15 the first, not the lowest", x.leave(2), 3);
        // One more of RANK, and it goes ahead.
        TravelToken y = Check.of("members 4;rank 1 2;rank 2 9;ask 0;ask 2;ask 3;send 2 0;send 3 0;leave 0;send 0 2;"
                + "ask 1;send 1 2;");
        Check.due("P15 the greater one", y.leave(2), 1);
        // Those that come at once come by numbers.
        for (int n = 3; n <= 6; n++) {
            StringBuilder text = new StringBuilder("members " + n + ";ask 0;");
            for (int m = n - 1; m >= 1; m--) {
                text.append("ask ").append(m).append(";send ").append(m).append(" 0;");
            }
            TravelToken z = Check.of(text.toString());
            Check.due("P15 the lowest number", z.leave(0), 1);
            z.send(0, 1);
            for (int k = 0; k < n - 2; k++) {
                Check.due("P8 by numbers", z.pass(1, 20 + k), 2 + k);
            }
        }
    }

    private static void rankAndWaitsTogether() {
        // The last of the QUEUE is the greatest, then the first, then the one between.
        TravelToken x = Check.of("members 4;rank 1 5;rank 2 4;rank 3 9;ask 0;ask 1;ask 2;ask 3;"
                + "send 1 0;send 2 0;send 3 0;");
        Check.due("P13", x.order(0), 3);
        Check.due("P13", x.order(1), 1);
        Check.due("P13", x.order(2), 2);
        Check.due("P15", x.leave(0), 3);
        x.send(0, 3);
        Check.due("P8", x.pass(3, 0), 2);
        Check.due("P8", x.pass(3, 20), 1);
        Check.due("P8", x.pass(3, 21), 2);
        // The one between is taken out: the others keep their places and their waits.
        TravelToken y = Check.of("members 5;rank 2 9;rank 3 2;rank 4 1;ask 0;ask 1;ask 2;ask 4;send 1 0;send 2 0;send 4 0;"
                + "leave 0;send 0 2;ask 3;send 3 2;ask 0;send 0 2;");
        Check.due("P8 1 and 4 wait", y.pass(2, 0), 2);
        Check.due("P15 4: 1 and 1; 3: 2 and 0; the first of them", y.leave(2), 4);
        y.send(2, 4);
        y.send(2, 4);
        int[] queue = {1, 0, 3};
        int[] waits = {2, 1, 1};
        for (int k = 0; k < 3; k++) {
            Check.due("P8 place " + k, y.pass(4, 20 + k), queue[k]);
            Check.due("P8 waits of it", y.pass(4, 30 + k), waits[k]);
        }
    }

    private static void onlyTheHolderThatIsNotInHandsOn() {
        TravelToken x = Check.of("members 3;ask 0;ask 1;");
        Check.due("P17 to one that is in", x.send(1, 0), 0);
        Check.due("has it still", x.now(10), 1);
        Check.due("P17 to one without a pass", x.send(1, 2), 0);
        Check.due("nothing is sent", x.now(1), 0);
        Check.due("the queue is not touched", x.pass(0, 0), 0);
        TravelToken y = Check.of("members 3;ask 1;");
        Check.due("P17 to one that is idle", y.send(1, 0), 0);
        Check.due("it has it no more", y.now(10), 0);
        Check.due("it is sent", y.way(0, 1), 1);
    }

    private static void withoutAnyThePassStays() {
        TravelToken x = Check.of("members 6;ask 0;");
        Check.due("P15 itself", x.leave(0), 0);
        Check.due("P8 no queue", x.pass(0, 0), 0);
        Check.due("P6 no message", x.now(1), 0);
        // A late request of one that was served moves nothing.
        TravelToken y = Check.of("members 3;ask 1;send 1 0;send 0 1;leave 1;ask 2;send 2 1;send 1 2;send 1 2;leave 2;");
        Check.due("P6 2 has it", y.now(10), 4);
        y.ask(0);
        y.lose(0, 2);
        Check.due("P17 a request to another one", y.send(0, 1), 0);
        Check.due("P6 2 has it", y.now(10), 4);
        Check.due("P6 no message but the eldest one", y.now(1), 1);
    }

    /** The PASS of 0 died while 1 waited in its sight: to leave, then, sends nothing. */
    private static void leavingWithoutAPass() {
        TravelToken x = Check.of("members 3;ask 0;ask 1;send 1 0;suspect 1;lose 1 0;suspect 1;send 1 0;");
        Check.due("P6 it died", x.now(4), 1);
        Check.due("P7 1 was seen", x.member(0, 11), 1);
        Check.due("P6 0 is in", x.now(9), 1);
        int messages = x.now(1);
        Check.due("P15 there is none", x.leave(0), 0);
        Check.due("P6 nothing is sent", x.now(1), messages);
        Check.due("P6 no pass", x.now(2), 0);
        Check.due("P7 served", x.member(0, 2), 1);
        Check.due("P7 no row", x.member(0, 30), 0);
        Check.due("P6 left", x.now(7), 1);
        // It asks again, now like any other.
        Check.due("P14", x.ask(0), 2);
        Check.due("P6 asks", x.now(8), 3);
        Check.due("P6 to two", x.now(1), messages + 2);
    }

    private static void markAgainstAge() {
        // One below: it dies.
        TravelToken x = Check.of("members 2;ask 1;send 1 0;suspect 1;");
        Check.due("P11", x.would(0, 1), 3);
        x.send(0, 1);
        Check.due("P6 died", x.now(4), 1);
        Check.due("P7 none here", x.member(1, 6), 0);
        Check.due("P7 asks on", x.member(1, 4), 1);
        Check.due("P7 collects on", x.member(1, 7), 2);
        // Like it: it is had.
        TravelToken y = Check.of("members 2;ask 0;ask 1;suspect 1;send 1 0;send 1 0;leave 0;send 0 1;");
        Check.due("P10 mark 2", y.message(0, 1, 0, 1), 2);
        Check.due("P7 age 2", y.member(1, 3), 2);
        Check.due("P11", y.would(0, 1), 1);
        y.send(0, 1);
        Check.due("P7 had", y.member(1, 6), 2);
        Check.due("P6 none died", y.now(4), 0);
        // Above it: it is had, and the age is its mark.
        TravelToken z = Check.of("members 3;ask 0;ask 1;ask 2;suspect 2;lose 2 1;lose 2 1;send 2 0;send 2 0;send 1 0;"
                + "leave 0;");
        Check.due("P10 mark 2", z.message(0, 1, 0, 1), 2);
        Check.due("P7 age 1", z.member(1, 3), 1);
        z.send(0, 1);
        Check.due("P7 had", z.member(1, 6), 2);
        Check.due("P7 age 2", z.member(1, 3), 2);
        Check.due("P7 in", z.member(1, 5), 1);
    }

    /** 0 voted while it was in, and left without a PASS: the new PASS knows less than 0 itself. */
    private static void servedIfThatIsMore() {
        TravelToken x = Check.of("members 2;ask 0;ask 1;send 1 0;suspect 1;suspect 1;lose 1 0;send 1 0;leave 0;ask 0;"
                + "send 0 1;send 0 1;");
        Check.due("P8 last of 0 as it voted", x.pass(1, 10), 0);
        Check.due("P7 seen of 0", x.member(1, 10), 2);
        Check.due("P15", x.leave(1), 0);
        Check.due("P7 row of 1", x.member(1, 30), 0);
        x.send(1, 0);
        Check.due("P8 last of 0 is its served", x.pass(0, 10), 1);
        Check.due("P7 the row, too", x.member(0, 30), 1);
        Check.due("P7 of 1", x.member(0, 31), 1);
        Check.due("P7 in", x.member(0, 5), 1);
        x.leave(0);
        Check.due("P8 last of 0", x.pass(0, 10), 2);
    }

    private static void aPassForOneThatIsIn() {
        TravelToken x = Check.of("members 2;ask 0;ask 1;send 1 0;suspect 1;suspect 1;lose 1 0;send 1 0;send 0 1;");
        Check.due("P6 both are in", x.now(9), 3);
        Check.due("P6 1 has a pass", x.now(10), 2);
        Check.due("P15 0 was not seen", x.leave(1), 1);
        Check.due("P15 0 leaves without", x.leave(0), 0);
        Check.due("P6 no message", x.now(1), 0);
    }

    /** Who HAS a PASS of MARK 3 gets a DOUBT of 1 more, like, less, 2 more. */
    private static void doubtAgainstMark() {
        String three = "members 3;ask 0;ask 1;suspect 1;suspect 1;send 1 0;send 1 0;send 1 0;send 0 1;send 0 1;ask 2;send 2 0;";
        int[] e = {2, 3, 4, 5};
        int[] mark = {3, 3, 4, 0};
        int[] age = {3, 3, 4, 5};
        for (int i = 0; i < 4; i++) {
            TravelToken x = Check.of(three);
            Check.due("P7 mark", x.member(0, 6), 3);
            for (int told = 2; told <= e[i]; told++) {
                Check.due("P16", x.suspect(2), told);
            }
            for (int told = 2; told < e[i]; told++) {
                x.lose(2, 0);
            }
            Check.due("P11 of " + e[i], x.would(2, 0), i == 3 ? 3 : 0);
            Check.due("P17 of " + e[i], x.send(2, 0), 2);
            Check.due("P7 mark behind " + e[i], x.member(0, 6), mark[i]);
            Check.due("P7 age behind " + e[i], x.member(0, 3), age[i]);
            Check.due("P10 have or vote", x.message(0, 2, 0, 0), i == 3 ? 4 : 3);
            Check.due("P10 of that e", x.message(0, 2, 0, 1), e[i]);
            Check.due("P10 served 0", x.message(0, 2, 0, 2), 0);
            Check.due("P6 died", x.now(4), i == 3 ? 1 : 0);
            Check.due("P6 in still", x.now(9), 1);
        }
    }

    /** Who HAS none, and is of AGE 3, gets a DOUBT of 2, 3, 4. */
    private static void doubtAgainstAge() {
        for (int e = 2; e <= 4; e++) {
            TravelToken x = Check.of("members 3;ask 0;ask 1;ask 2;suspect 1;suspect 1;send 2 1;");
            Check.due("P7 age", x.member(1, 3), 3);
            for (int told = 2; told <= e; told++) {
                x.suspect(2);
            }
            for (int told = 2; told < e; told++) {
                x.lose(2, 1);
            }
            Check.due("P17", x.send(2, 1), 2);
            boolean votes = e == 4;
            Check.due("P7 age behind " + e, x.member(1, 3), votes ? 4 : 3);
            Check.due("P7 collects behind " + e, x.member(1, 7), votes ? 0 : 3);
            Check.due("P9 a vote behind " + e, x.way(1, 2), votes ? 4 : 3);
            Check.due("P10 it is one", x.message(1, 2, 3, 0), votes ? 4 : -1);
            Check.due("P7 asks still", x.member(1, 4), 1);
        }
    }

    private static void doubtEndsVotes() {
        TravelToken x = Check.of("members 3;ask 1;send 1 0;lose 0 1;ask 2;suspect 1;send 1 0;send 0 1;");
        Check.due("P7 a vote of 0", x.member(1, 8), 1);
        x.suspect(2);
        x.send(2, 1);
        Check.due("P17 a doubt of 2", x.send(2, 1), 2);
        Check.due("P7 is not above the age: collects on", x.member(1, 7), 2);
        Check.due("P7 the vote stays", x.member(1, 8), 1);
        x.suspect(2);
        x.send(2, 1);
        Check.due("P7 a doubt of 3 is: collects none", x.member(1, 7), 0);
        Check.due("P7 the vote is dropped", x.member(1, 8), 0);
        Check.due("P16 anew", x.suspect(1), 4);
        Check.due("P7 none as yet", x.member(1, 8), 0);
    }

    private static void haveOfThatEAlone() {
        TravelToken x = Check.of("members 3;ask 0;ask 1;suspect 1;send 1 0;send 1 0;suspect 1;send 1 2;lose 1 2;send 1 2;"
                + "send 2 1;");
        Check.due("P7 collects for 3", x.member(1, 7), 3);
        Check.due("P7 a vote of 2", x.member(1, 8), 4);
        Check.due("P17 have of 2", x.send(0, 1), 3);
        Check.due("P7 collects for 3 still", x.member(1, 7), 3);
        Check.due("P7 the vote stays", x.member(1, 8), 4);
        x.send(1, 0);
        Check.due("P17 have of 3", x.send(0, 1), 3);
        Check.due("P7 collects none", x.member(1, 7), 0);
        Check.due("P7 the vote is dropped", x.member(1, 8), 0);
        Check.due("P7 the age stays", x.member(1, 3), 3);
        Check.due("P7 asks still", x.member(1, 4), 1);
    }

    private static void voteOfThatEAlone() {
        // The vote for 2 comes when votes for 3 are collected.
        TravelToken x = Check.of("members 2;ask 1;send 1 0;lose 0 1;suspect 1;send 1 0;suspect 1;");
        Check.due("P11", x.would(0, 1), 0);
        Check.due("P17 a vote for 2", x.send(0, 1), 4);
        Check.due("P7 does not count", x.member(1, 8), 0);
        Check.due("P6 none is made", x.now(5), 0);
        x.send(1, 0);
        Check.due("P11", x.would(0, 1), 1);
        Check.due("P17 a vote for 3", x.send(0, 1), 4);
        Check.due("P6 one is made", x.now(5), 1);
        Check.due("P7 its mark", x.member(1, 6), 3);
        // It comes when none are collected any more: HAVE was ahead of it.
        TravelToken y = Check.of("members 3;ask 0;ask 1;suspect 1;send 1 0;send 1 0;send 0 1;send 1 2;send 1 2;");
        Check.due("P7 collects none", y.member(1, 7), 0);
        Check.due("P17 a vote", y.send(2, 1), 4);
        Check.due("P7 does not count", y.member(1, 8), 0);
    }

    private static void votesOfAllOthersOfEachSize() {
        for (int n = 2; n <= 6; n++) {
            TravelToken x = Check.of("members " + n + ";ask 1;send 1 0;lose 0 1;suspect 1;");
            int bits = 0;
            int others = 0;
            for (int m = 0; m < n; m++) {
                if (m == 1) {
                    continue;
                }
                if (m != 0) {
                    x.send(1, m);
                }
                x.send(1, m);
                others++;
                boolean last = others == n - 1;
                Check.due("P11 vote " + others + " of " + (n - 1), x.would(m, 1), last ? 1 : 0);
                Check.due("P17 vote", x.send(m, 1), 4);
                bits |= 1 << m;
                Check.due("P7 by whom as yet", x.member(1, 8), last ? 0 : bits);
                Check.due("P7 for which e", x.member(1, 7), last ? 0 : 2);
                Check.due("P6 made", x.now(5), last ? 1 : 0);
                Check.due("P6 in", x.now(9), last ? 2 : 0);
                Check.due("P6 asks", x.now(8), last ? 0 : 2);
                Check.due("P6 passes", x.now(2), last ? 1 : 0);
            }
            Check.due("P7 mark", x.member(1, 6), 2);
            Check.due("P8 no queue", x.pass(1, 0), 0);
        }
    }

    /** All were served so often as their number says; 1 makes a PASS that knows it. */
    private static void votesOfMembersThatWereServed() {
        StringBuilder text = new StringBuilder("members 4;ask 0;leave 0;");
        for (int m = 1; m < 4; m++) {
            for (int i = 0; i < m; i++) {
                text.append(i == 0 ? "ask " + m + ";settle 9;" : "ask " + m + ";leave " + m + ";");
            }
        }
        TravelToken x = Check.of(text + "ask 1;send 1 3;lose 3 1;lose 1 0;lose 1 2;suspect 1;settle 6;");
        int[] last = {1, 1, 2, 3};
        for (int m = 0; m < 4; m++) {
            Check.due("P8 last of " + m, x.pass(1, 10 + m), last[m]);
            Check.due("P7 row of " + m, x.member(1, 30 + m), last[m]);
        }
        Check.due("P7 number", x.member(1, 1), 2);
        Check.due("P6 in", x.now(9), 2);
    }

    private static void validOnes() {
        // An AGE like the MARK, and one above it.
        TravelToken x = Check.of("members 3;ask 0;ask 1;");
        Check.due("P6 ages are like the mark", x.now(3), 1);
        x.suspect(1);
        Check.due("P6 one is above", x.now(3), 0);
        Check.due("P6 there is one", x.now(2), 1);
        x.send(1, 0);
        x.send(1, 0);
        Check.due("P6 the mark is like it", x.now(3), 1);
        // The AGE of each MEMBER counts, and that of a PASS on its way, too.
        for (int m = 1; m < 6; m++) {
            TravelToken y = Check.of("members 6;ask " + m + ";send " + m + " 0;suspect " + m + ";");
            Check.due("P6 the one on its way is too old", y.now(3), 0);
            Check.due("P6 there is one", y.now(2), 1);
        }
        for (int m = 1; m < 6; m++) {
            TravelToken v = Check.of("members 6;ask " + m + ";send " + m + " 0;send 0 " + m + ";ask 0;suspect 0;");
            Check.due("P6 0 is above the one that is had", v.now(3), 0);
            Check.due("P6 it is had", v.now(10), 1 << m);
        }
        TravelToken z = Check.of("members 3;ask 1;send 1 0;");
        Check.due("P6 one on its way", z.now(3), 1);
        z.lose(0, 1);
        Check.due("P6 none", z.now(3), 0);
        Check.due("P6 none", z.now(2), 0);
        validAgainstAnotherOne();
    }

    /** An old PASS on its way, a new one had, then sent, then lost: the old one stays below the ages. */
    private static void validAgainstAnotherOne() {
        TravelToken y = Check.of("members 3;ask 1;send 1 0;ask 2;send 2 0;suspect 2;send 2 0;send 2 1;send 2 1;"
                + "send 1 2;send 1 2;send 0 2;");
        Check.due("P6 two passes", y.now(2), 2);
        Check.due("P6 one is valid", y.now(3), 1);
        y.leave(2);
        Check.due("P6 two on their ways", y.now(2), 2);
        Check.due("P6 one is valid", y.now(3), 1);
        y.lose(2, 1);
        Check.due("P6 the old one is left", y.now(2), 1);
        Check.due("P6 and not valid", y.now(3), 0);
        Check.due("P17 it dies on sight", y.send(0, 1), 1);
        Check.due("P6 died", y.now(4), 1);
    }

    private static void wouldOfEachAnswer() {
        TravelToken x = Check.of("members 3;ask 1;");
        Check.due("P11 sent on by a request", x.would(1, 0), 2);
        Check.due("P11 nothing", x.would(1, 2), 0);
        x.send(1, 0);
        Check.due("P11 comes in by a pass", x.would(0, 1), 1);
        x.suspect(1);
        Check.due("P11 dies as too old", x.would(0, 1), 3);
        Check.due("P11 none there", x.would(2, 1), -1);
        TravelToken y = Check.of("members 2;ask 0;ask 1;suspect 1;suspect 1;lose 1 0;lose 1 0;");
        Check.due("P11 dies by a doubt", y.would(1, 0), 3);
        y.send(1, 0);
        Check.due("P11 comes in by a vote", y.would(0, 1), 1);
        Check.due("P11 on paper alone", y.now(5), 0);
        TravelToken z = Check.of("members 2;ask 0;ask 1;suspect 1;send 1 0;");
        Check.due("P11 a doubt, a higher mark", z.would(1, 0), 0);
        z.send(1, 0);
        Check.due("P11 a have", z.would(0, 1), 0);
    }

    /** soon() and order() tell what settling by one MESSAGE after the other then does. */
    private static void soonAndOrderAsSettled() {
        String[] texts = {
            "members 6;ask 0;ask 5;ask 4;ask 3;ask 2;ask 1;",
            "members 6;rank 4 3;rank 2 3;ask 5;ask 4;ask 3;ask 2;ask 1;suspect 3;",
            "members 4;ask 1;send 1 0;lose 0 1;ask 2;ask 3;suspect 3;",
            "members 2;ask 1;" + "suspect 1;".repeat(39),
            "members 3;ask 1;ask 2;lose 1 0;lose 1 2;",
            "members 5;ask 0;ask 1;suspect 1;suspect 1;lose 1 0;lose 1 0;ask 4;ask 3;",
        };
        for (String text : texts) {
            TravelToken x = Check.of(text);
            TravelToken y = Check.of(text);
            int n = x.now(0);
            int came = 0;
            int[] soon = new int[n];
            for (int m = 0; m < n; m++) {
                soon[m] = (y.now(9) >> m & 1) == 1 ? 0 : -2;
            }
            for (int i = 1; i <= 200 && y.settle(1) == 1; i++) {
                int in = y.now(9);
                for (int m = 0; m < n; m++) {
                    if ((in >> m & 1) == 1) {
                        Check.due("P13 order(" + came + ") of " + text, x.order(came), m);
                        came++;
                        soon[m] = soon[m] == -2 ? i : soon[m];
                    }
                }
            }
            for (int m = 0; m < n; m++) {
                Check.due("P12 soon(" + m + ") of " + text, x.soon(m), soon[m]);
            }
            for (int k = came; k <= 21; k++) {
                Check.due("P13 order(" + k + ") of " + text, x.order(k), -1);
            }
        }
    }
}
