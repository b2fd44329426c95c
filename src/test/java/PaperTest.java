/** Promises 11 (would), 12 (soon), 13 (order): all on paper alone. */
public final class PaperTest {
    public static void main(String[] args) {
        wouldOfEachKind();
        wouldIsNone();
        soonCountsMessages();
        orderOfThoseThatComeIn();
        paperChangesNothing();
        Check.close();
    }

    private static void wouldOfEachKind() {
        TravelToken x = Check.of("members 3;ask 0;ask 1;");
        Check.due("P11 0 is in: a request does nothing", x.would(1, 0), 0);
        Check.due("P11 2 has no pass", x.would(1, 2), 0);
        x.leave(0);
        Check.due("P11 0 would send the pass", x.would(1, 0), 2);
        x.send(1, 0);
        Check.due("P11 1 would come in", x.would(0, 1), 1);
        x.suspect(1);
        Check.due("P11 the pass is too old now", x.would(0, 1), 3);
        Check.due("P11 a doubt makes a vote", x.would(1, 0), 0);
        x.send(1, 0);
        x.send(1, 2);
        x.send(1, 2);
        x.send(0, 1);
        Check.due("P11 the first vote of two", x.would(0, 1), 0);
        x.send(0, 1);
        Check.due("P11 the last vote", x.would(2, 1), 1);
        x.send(2, 1);
        Check.due("P17 1 is in", x.now(9), 2);

        TravelToken y = Check.of("members 2;ask 0;ask 1;suspect 1;suspect 1;send 1 0;");
        Check.due("P11 a doubt that raises the mark", y.would(1, 0), 0);
        y.lose(1, 0);
        Check.due("P11 a doubt by which a pass dies", y.would(1, 0), 3);
        y.undo();
        y.send(1, 0);
        Check.due("P11 a have", y.would(0, 1), 0);
    }

    private static void wouldIsNone() {
        TravelToken x = Check.of("members 3;ask 1;");
        Check.due("P11 none there", x.would(0, 1), -1);
        Check.due("P11 like ones", x.would(1, 1), -1);
        Check.due("P11 no such ones", x.would(1, 3), -1);
        Check.due("P11 no such ones", x.would(-1, 0), -1);
        Check.due("P11 no such ones", x.would(Integer.MAX_VALUE, Integer.MIN_VALUE), -1);
    }

    private static void soonCountsMessages() {
        TravelToken x = new TravelToken();
        Check.due("P12 no messages", x.soon(0), -2);
        x.ask(1);
        Check.due("P12 request and pass", x.soon(1), 2);
        Check.due("P12 0 does not ask", x.soon(0), -2);
        x.ask(0);
        Check.due("P12 0 is in", x.soon(0), 0);
        Check.due("P12 0 leaves on paper", x.soon(1), 2);
        x.leave(0);
        x.send(1, 0);
        Check.due("P12 the pass alone", x.soon(1), 1);
        x.send(0, 1);
        Check.due("P12 is in", x.soon(1), 0);
        Check.due("P12 no such one", x.soon(2), -1);
        Check.due("P12 no such one", x.soon(-1), -1);
        Check.due("P12 no such one", x.soon(Integer.MIN_VALUE), -1);
        x.undo();
        x.lose(0, 1);
        Check.due("P12 the pass is lost", x.soon(1), -2);
        x.suspect(1);
        Check.due("P12 doubt and vote", x.soon(1), 2);
    }

    private static void orderOfThoseThatComeIn() {
        TravelToken x = new TravelToken();
        Check.due("P13 none", x.order(0), -1);
        // Requests come in the order of asking; 0 is in already, and the ranks decide when it leaves.
        TravelToken y = Check.of("members 4;rank 1 1;rank 3 3;ask 0;ask 1;ask 2;ask 3;send 1 0;send 2 0;send 3 0;");
        int[] due = {3, 1, 2, -1};
        for (int k = 0; k < due.length; k++) {
            Check.due("P13 order(" + k + ")", y.order(k), due[k]);
        }
        Check.due("P13 the last k", y.order(19), -1);
        for (int k : new int[] {-1, 20, Integer.MIN_VALUE, Integer.MAX_VALUE}) {
            Check.due("P13 order(" + k + ")", y.order(k), -1);
        }
        // 0 hands on at the first request: 1 comes in first, though its rank is lower.
        TravelToken z = Check.of("members 3;rank 2 9;ask 1;ask 2;");
        Check.due("P13 the eldest request", z.order(0), 1);
        Check.due("P13 the other", z.order(1), 2);
        z.lose(1, 0);
        Check.due("P13 without it 2", z.order(0), 2);
        Check.due("P13 2 saw 1 ask", z.order(1), 1);
        z.lose(1, 2);
        Check.due("P13 nobody saw 1 ask", z.order(1), -1);
    }

    private static void paperChangesNothing() {
        TravelToken x = Check.of("members 3;ask 0;ask 1;ask 2;send 1 0;");
        x.leave(0);
        String before = Check.dump(x);
        x.would(0, 1);
        x.would(2, 0);
        x.soon(1);
        x.soon(2);
        x.order(0);
        x.order(2);
        Check.same("P11, P12, P13", Check.dump(x), before);
        Check.due("P20 only leave() can be undone", x.now(11), 1);
        x.undo();
        Check.due("P20 0 is in again", x.now(9), 1);
    }
}
