/** The rules of the terms: who is handed the pass, what a doubt, a vote, a late message does. */
public final class RulesTest {
    public static void main(String[] args) {
        likeOnesByNumbers();
        waitsOutweighRanks();
        whoIsInTheQueueStaysInItsPlace();
        aLateRequestIsNotServedTwice();
        anOlderRequestTakesNothingBack();
        theRowIsWrittenWhenThePassIsSent();
        aPassForOneThatAsksNoMore();
        aPassEndsTheVotes();
        aPassBringsItsAge();
        aDoubtBelowTheMark();
        aDoubtOneAboveTheMark();
        aDoubtThatComesLate();
        twoThatSuspect();
        haveForAnotherOne();
        votesOfAllOthers();
        oneThatIsInGetsAPass();
        oneThatIsInKeepsThePassFromOneThatAsks();
        Check.close();
    }

    private static void likeOnesByNumbers() {
        TravelToken x = Check.of("members 4;ask 0;ask 3;ask 2;ask 1;send 3 0;send 2 0;send 1 0;");
        Check.due("by numbers, not by asking", x.leave(0), 1);
        x.send(0, 1);
        Check.due("queue", x.pass(1, 20), 2);
        Check.due("queue", x.pass(1, 21), 3);
        Check.due("the first of like ones", x.leave(1), 2);
    }

    private static void waitsOutweighRanks() {
        TravelToken x = Check.of("members 4;rank 2 1;rank 3 1;ask 0;ask 1;ask 2;ask 3;"
                + "send 1 0;send 2 0;send 3 0;leave 0;send 0 2;leave 2;send 2 3;send 2 3;");
        Check.due("1 waits alone", x.pass(3, 0), 1);
        Check.due("for the second time", x.pass(3, 30), 2);
        x.ask(2);
        x.send(2, 3);
        Check.due("0 and 2 waits are more than rank 1", x.leave(3), 1);
        x.lose(3, 1);
        Check.due("a request was ahead of the pass", x.now(2), 1);
        x.send(3, 1);
        Check.due("2 comes to the queue by that", x.pass(1, 20), 2);
        Check.due("and waited once", x.pass(1, 30), 1);
    }

    private static void whoIsInTheQueueStaysInItsPlace() {
        TravelToken x = Check.of("members 4;rank 3 9;ask 0;ask 2;ask 3;send 2 0;send 3 0;leave 0;send 0 3;"
                + "ask 1;send 1 3;send 2 3;leave 3;");
        Check.due("2 waits longer than 1", x.way(3, 2), 2);
        x.send(3, 2);
        x.send(3, 2);
        Check.due("1 came behind it", x.pass(2, 20), 1);
        Check.due("2 is there once only", x.pass(2, 0), 1);
        Check.due("1 waited once", x.pass(2, 30), 1);
        Check.due("P15", x.leave(2), 1);
    }

    private static void aLateRequestIsNotServedTwice() {
        TravelToken x = Check.of("members 3;ask 1;send 1 0;send 0 1;leave 1;ask 2;send 2 1;");
        Check.due("the request of 1 comes late", x.send(1, 2), 0);
        Check.due("2 saw it", x.member(2, 11), 1);
        Check.due("the pass", x.send(1, 2), 1);
        Check.due("it was served", x.pass(2, 11), 1);
        Check.due("so the pass stays", x.leave(2), 2);
    }

    private static void anOlderRequestTakesNothingBack() {
        TravelToken x = Check.of("members 3;ask 0;leave 0;ask 1;send 1 0;send 0 1;leave 1;");
        Check.due("P14 0 asks without the pass", x.ask(0), 2);
        x.send(0, 1);
        Check.due("1 saw the second asking of 0", x.member(1, 10), 2);
        Check.due("1 handed on", x.way(1, 0), 1);
        x.send(1, 0);
        x.leave(0);
        Check.due("P14", x.ask(1), 2);
        x.send(1, 2);
        Check.due("2 sees the first", x.member(2, 11), 1);
        x.send(1, 2);
        Check.due("2 sees the second", x.member(2, 11), 2);
        Check.due("0 handed nothing on yet", x.now(10), 1);
    }

    private static void theRowIsWrittenWhenThePassIsSent() {
        TravelToken x = Check.of("members 3;ask 0;leave 0;");
        Check.due("the pass stayed: the row does, too", x.member(0, 30), 0);
        Check.due("though it was served", x.pass(0, 10), 1);
        x.ask(1);
        x.send(1, 0);
        Check.due("it was sent", x.member(0, 30), 1);
        x.send(0, 1);
        Check.due("1 has it as it came", x.member(1, 30), 1);
        Check.due("1 is not served yet", x.member(1, 31), 0);
        x.ask(0);
        x.send(0, 1);
        x.leave(1);
        Check.due("1 had it latest like this", x.member(1, 31), 1);
        x.send(1, 0);
        Check.due("0 knows of 1", x.member(0, 31), 1);
        Check.due("2 never had it", x.member(2, 30), 0);
    }

    /** 1 votes while it is in; it leaves later: the new pass takes it for one that waits. */
    private static void aPassForOneThatAsksNoMore() {
        TravelToken x = Check.of("members 3;ask 1;send 1 0;send 0 1;send 1 2;ask 2;suspect 2;suspect 2;"
                + "send 2 0;send 2 0;send 2 0;send 2 1;lose 2 1;send 2 1;");
        Check.due("the pass of 1 died", x.now(4), 1);
        Check.due("1 is in", x.now(9), 2);
        x.leave(1);
        Check.due("a vote for another e", x.send(0, 2), 4);
        Check.due("does not count", x.member(2, 8), 0);
        Check.due("the vote of 0", x.send(0, 2), 4);
        Check.due("counts", x.member(2, 8), 1);
        Check.due("the vote of 1", x.send(1, 2), 4);
        Check.due("P15 to 1, that was seen asking", x.leave(2), 1);
        Check.due("P11 it would stay there", x.would(2, 1), 0);
        x.ask(0);
        x.send(0, 1);
        Check.due("P11 it would go on", x.would(2, 1), 2);
        x.send(2, 1);
        Check.due("1 knows that it was served", x.member(1, 31), 1);
        Check.due("1 has it no more", x.member(1, 6), 0);
        Check.due("mark", x.message(1, 0, 0, 1), 3);
        x.send(1, 0);
        Check.due("last of 1 is its served", x.pass(0, 11), 1);
        Check.due("0 is in", x.now(9), 1);
    }

    private static void aPassEndsTheVotes() {
        TravelToken x = Check.of("members 3;ask 0;ask 1;suspect 1;send 1 0;send 1 0;send 1 2;send 1 2;send 2 1;leave 0;");
        Check.due("a vote", x.member(1, 8), 4);
        Check.due("have comes first", x.message(0, 1, 0, 0), 3);
        Check.due("collects", x.member(1, 7), 2);
        x.lose(0, 1);
        x.send(0, 1);
        Check.due("a pass of mark 2 is not too old", x.member(1, 6), 2);
        Check.due("no votes any more", x.member(1, 7), 0);
        Check.due("none", x.member(1, 8), 0);
        Check.due("in", x.member(1, 5), 1);
        Check.due("asks no more", x.member(1, 4), 0);
        Check.due("P6 made", x.now(5), 0);
    }

    private static void aPassBringsItsAge() {
        TravelToken x = Check.of("members 3;ask 0;ask 1;ask 2;suspect 1;send 1 0;send 1 0;send 2 0;lose 1 2;lose 1 2;");
        Check.due("the mark is 2", x.member(0, 6), 2);
        x.leave(0);
        x.send(0, 1);
        x.send(0, 1);
        x.leave(1);
        Check.due("2 knows of no doubt", x.member(2, 3), 1);
        x.send(1, 2);
        Check.due("the mark is 2", x.member(2, 6), 2);
        Check.due("so the age is", x.member(2, 3), 2);
    }

    private static void aDoubtBelowTheMark() {
        TravelToken x = Check.of("members 3;ask 0;ask 1;ask 2;suspect 1;suspect 2;suspect 1;send 1 0;send 1 0;send 1 0;");
        Check.due("the mark is 3", x.member(0, 6), 3);
        Check.due("the age, too", x.member(0, 3), 3);
        x.send(2, 0);
        Check.due("a doubt of 2", x.send(2, 0), 2);
        Check.due("the mark stays", x.member(0, 6), 3);
        Check.due("the age stays", x.member(0, 3), 3);
        Check.due("have", x.message(0, 2, 0, 0), 3);
        Check.due("of 2", x.message(0, 2, 0, 1), 2);
    }

    private static void aDoubtOneAboveTheMark() {
        TravelToken x = Check.of("members 2;ask 1;suspect 1;suspect 1;lose 1 0;");
        x.send(1, 0);
        Check.due("mark 2 for e 2", x.member(0, 6), 2);
        x.send(1, 0);
        Check.due("mark 3 for e 3", x.member(0, 6), 3);
        Check.due("two haves", x.way(0, 1), 2);
        TravelToken y = Check.of("members 2;ask 1;suspect 1;suspect 1;lose 1 0;lose 1 0;send 1 0;");
        Check.due("mark 1 is too far below e 3", y.member(0, 6), 0);
        Check.due("age", y.member(0, 3), 3);
        Check.due("died", y.now(4), 1);
    }

    private static void aDoubtThatComesLate() {
        TravelToken x = Check.of("members 3;ask 1;ask 2;lose 1 0;lose 2 0;suspect 1;suspect 2;lose 1 2;lose 2 1;");
        Check.due("2 suspects, too", x.member(2, 3), 2);
        x.send(1, 2);
        Check.due("2 has that age: no vote", x.way(2, 1), 1);
        Check.due("2 collects on", x.member(2, 7), 2);
        Check.due("P16", x.suspect(1), 3);
        x.send(1, 2);
        Check.due("now it votes", x.way(2, 1), 2);
        Check.due("and collects no more", x.member(2, 7), 0);
        Check.due("age", x.member(2, 3), 3);
        Check.due("it asks still", x.member(2, 4), 1);
    }

    private static void twoThatSuspect() {
        TravelToken x = Check.of("members 3;ask 1;send 1 0;lose 0 1;ask 2;suspect 1;suspect 2;settle 99;");
        Check.due("neither has all votes", x.now(5), 0);
        Check.due("0 voted for 1 alone", x.member(1, 8), 1);
        Check.due("2 has none", x.member(2, 8), 0);
        Check.due("P16", x.suspect(2), 3);
        x.settle(99);
        Check.due("one new pass", x.now(5), 1);
        Check.due("1 and 2 were served", x.now(7), 2);
        Check.due("one pass", x.now(2), 1);
        Check.due("valid", x.now(3), 1);
    }

    private static void haveForAnotherOne() {
        TravelToken x = Check.of("members 2;ask 0;ask 1;suspect 1;send 1 0;send 1 0;suspect 1;");
        Check.due("have of 2", x.send(0, 1), 3);
        Check.due("votes for 3 are collected on", x.member(1, 7), 3);
        x.send(1, 0);
        Check.due("have of 3", x.send(0, 1), 3);
        Check.due("are dropped", x.member(1, 7), 0);
        Check.due("P16 again", x.suspect(1), 4);
    }

    private static void votesOfAllOthers() {
        TravelToken x = Check.of("members 3;ask 0;leave 0;ask 0;leave 0;ask 1;send 1 0;send 0 1;leave 1;ask 2;send 2 1;"
                + "lose 1 2;lose 1 2;suspect 2;send 2 0;send 2 0;send 2 1;");
        Check.due("0 was served twice", x.message(0, 2, 0, 2), 2);
        Check.due("1 was served once", x.message(1, 2, 0, 2), 1);
        x.send(1, 2);
        Check.due("by 1", x.member(2, 8), 2);
        Check.due("not made yet", x.now(5), 0);
        Check.due("a vote of all others", x.send(0, 2), 4);
        Check.due("mark", x.member(2, 6), 2);
        Check.due("age", x.member(2, 3), 2);
        int[] last = {2, 1, 0};
        for (int m = 0; m < 3; m++) {
            Check.due("last of " + m, x.pass(2, 10 + m), last[m]);
            Check.due("row of " + m, x.member(2, 30 + m), last[m]);
        }
        Check.due("no queue", x.pass(2, 0), 0);
        Check.due("in", x.member(2, 5), 1);
        Check.due("asks no more", x.member(2, 4), 0);
        Check.due("collects no more", x.member(2, 7), 0);
        Check.due("valid", x.now(3), 1);
    }

    /** 1 is in, its pass died; the new one goes to it, and stays until it leaves. */
    private static void oneThatIsInGetsAPass() {
        TravelToken x = Check.of("members 3;ask 1;send 1 0;send 0 1;send 1 2;ask 2;suspect 2;suspect 2;"
                + "send 2 0;send 2 0;send 2 0;send 2 1;lose 2 1;send 2 1;lose 0 2;send 0 2;send 1 2;");
        Check.due("1 and 2 are in", x.now(9), 6);
        Check.due("2 has the pass", x.now(10), 4);
        Check.due("P15", x.leave(2), 1);
        Check.due("P11", x.would(2, 1), 0);
        x.send(2, 1);
        Check.due("1 is in with a pass", x.now(9), 2);
        Check.due("has it", x.member(1, 6), 3);
        Check.due("last of 1", x.pass(1, 11), 0);
        Check.due("P15 it stays", x.leave(1), 1);
        Check.due("last of 1", x.pass(1, 11), 1);
    }

    /** As above, but 1 knows that 0 asks: it HANDS ON only when it leaves, not when the PASS comes. */
    private static void oneThatIsInKeepsThePassFromOneThatAsks() {
        TravelToken x = Check.of("members 3;ask 1;send 1 0;send 0 1;send 1 2;ask 2;suspect 2;suspect 2;"
                + "send 2 0;send 2 0;send 2 0;send 2 1;lose 2 1;send 2 1;lose 0 2;send 0 2;send 1 2;"
                + "leave 2;ask 0;send 0 1;");
        Check.due("1 is in, without a pass", x.now(9), 2);
        Check.due("nobody has one", x.now(10), 0);
        Check.due("1 saw 0 ask", x.member(1, 10), 1);
        Check.due("P11 nothing", x.would(2, 1), 0);
        Check.due("P17 the pass", x.send(2, 1), 1);
        Check.due("1 is in", x.now(9), 2);
        Check.due("and has the pass", x.now(10), 2);
        Check.due("0 is not yet in its queue", x.pass(1, 0), 0);
        Check.due("the request of 0 to 2 is on its way alone", x.now(1), 1);
        Check.due("P15 now it goes to 0", x.leave(1), 0);
        Check.due("with what 1 was served", x.member(1, 31), 1);
    }
}
