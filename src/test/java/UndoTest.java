/** Promise 20 (undo). */
public final class UndoTest {
    private static final String START = "members 3;rank 2 4;ask 0;ask 1;suspect 1;send 1 0;send 1 2;";

    public static void main(String[] args) {
        eachActIsUndone();
        allOfTheStateComesBack();
        tenAreKept();
        refusedActsAreNotKept();
        aSettleByNoneIsKept();
        aTextForgets();
        tapeAndFaultStay();
        actsGoOnBehindAnUndo();
        Check.close();
    }

    private static int act(TravelToken x, int kind) {
        switch (kind) {
            case 0: return x.ask(2);
            case 1: return x.leave(0);
            case 2: return x.suspect(1);
            case 3: return x.send(1, 0);
            case 4: return x.lose(1, 2);
            default: return x.settle(9);
        }
    }

    private static void eachActIsUndone() {
        for (int kind = 0; kind < 6; kind++) {
            TravelToken x = Check.of(START);
            String before = Check.dump(x);
            Check.due("P20 act " + kind + " is not refused", act(x, kind) >= 0, true);
            Check.due("P20 can be undone", x.now(11), 1);
            Check.due("P20 changed something", Check.dump(x).equals(before), false);
            Check.due("P20 undone", x.undo(), 0);
            Check.same("P20 act " + kind, Check.dump(x), before);
            Check.due("P20 no more", x.undo(), -1);
        }
    }

    /** States with much in them; a settle() changes them, the text behind undo() wipes out what was not copied. */
    private static void allOfTheStateComesBack() {
        String[] starts = {
            // A pass with a queue is had, numbers were served, one message was lost.
            "members 3;ask 0;leave 0;ask 0;ask 1;ask 2;send 1 0;send 2 0;leave 0;lose 1 2;send 0 1;ask 0;",
            // A pass with a queue is on its way.
            "members 3;ask 0;leave 0;ask 0;ask 1;ask 2;send 1 0;send 2 0;leave 0;",
            // Votes are collected, one came of one that was served.
            "members 3;ask 0;leave 0;ask 1;send 1 0;lose 0 1;suspect 1;send 1 0;send 0 1;",
            // A pass was made by votes, an old one died.
            "members 2;ask 1;send 1 0;suspect 1;send 1 0;send 0 1;send 0 1;",
        };
        for (String start : starts) {
            TravelToken x = Check.of(start);
            String before = Check.dump(x);
            x.settle(4);
            x.settle(99);
            Check.due("P20", x.undo(), 1);
            Check.due("P20", x.undo(), 0);
            Check.same("P20 behind '" + start + "'", Check.dump(x), before);
        }
        TravelToken y = Check.of(starts[2]);
        y.suspect(1);
        y.undo();
        y.settle(99);
        Check.due("P20 the vote is back", y.member(1, 30), 1);
        Check.due("P20 and counts", y.now(5), 1);
    }

    private static void tenAreKept() {
        TravelToken x = new TravelToken();
        for (int i = 1; i <= 12; i++) {
            Check.due("P14", x.ask(0), i);
            Check.due("P6", x.now(11), Math.min(10, 2 * i - 1));
            Check.due("P15", x.leave(0), 0);
            Check.due("P6", x.now(11), Math.min(10, 2 * i));
        }
        for (int i = 9; i >= 0; i--) {
            Check.due("P20", x.undo(), i);
            Check.due("P6", x.now(11), i);
            Check.due("P20 in and out", x.now(9), i % 2);
            Check.due("P20 numbers", x.member(0, 1), 7 + (i + 1) / 2);
            Check.due("P20 left", x.now(7), 7 + i / 2);
        }
        Check.due("P20 the eleventh was not kept", x.undo(), -1);
        Check.due("P20 stays", x.member(0, 1), 7);
    }

    private static void refusedActsAreNotKept() {
        TravelToken x = Check.of("members 2;");
        x.ask(1);
        x.ask(1);
        x.ask(2);
        x.leave(0);
        x.suspect(0);
        x.send(0, 1);
        x.lose(0, 1);
        x.settle(0);
        x.settle(100);
        x.would(1, 0);
        x.soon(1);
        x.order(0);
        Check.due("P20 one alone", x.undo(), 0);
        Check.due("P20 1 asks no more", x.now(8), 0);
        Check.due("P20 no message", x.now(1), 0);
        Check.due("P20 none", x.undo(), -1);
    }

    private static void aSettleByNoneIsKept() {
        TravelToken x = new TravelToken();
        x.ask(0);
        Check.due("P19", x.settle(5), 0);
        Check.due("P19 it left", x.now(7), 1);
        Check.due("P19", x.settle(5), 0);
        Check.due("P6", x.now(11), 3);
        Check.due("P20", x.undo(), 2);
        Check.due("P20 left still", x.now(7), 1);
        Check.due("P20", x.undo(), 1);
        Check.due("P20 in again", x.now(9), 1);
        Check.due("P20", x.undo(), 0);
        Check.due("P20 not in", x.now(9), 0);
    }

    private static void aTextForgets() {
        TravelToken x = new TravelToken();
        x.ask(1);
        x.send(1, 0);
        Check.due("P4", Check.read(x, "members 2;ask 1;"), 1);
        Check.due("P6", x.now(11), 0);
        Check.due("P20 nor the acts of the text", x.undo(), -1);
        Check.due("P20 1 asks", x.now(8), 2);
        x.send(1, 0);
        Check.due("P4 a fault", Check.read(x, "members 2;ask 3;"), -16);
        Check.due("P20 that forgets nothing", x.undo(), 0);
        Check.due("P20 the request is back", x.way(1, 0), 1);
    }

    private static void tapeAndFaultStay() {
        TravelToken x = new TravelToken();
        x.ask(1);
        Check.read(x, "members 9;");
        x.feed(1, 2, 3, 4, 5);
        x.undo();
        Check.due("P20 the tape stays", x.now(12), 20);
        Check.due("P20 the fault stays", x.fault(), 2);
    }

    private static void actsGoOnBehindAnUndo() {
        TravelToken x = Check.of("members 3;");
        x.ask(1);
        x.send(1, 0);
        x.undo();
        Check.due("P20 the request is back", x.way(1, 0), 1);
        x.ask(2);
        x.lose(2, 0);
        Check.due("P6", x.now(11), 3);
        x.undo();
        x.undo();
        Check.due("P20 2 asks no more", x.now(8), 2);
        Check.due("P17", x.send(1, 0), 0);
        Check.due("P17", x.send(0, 1), 1);
        Check.due("P20", x.undo(), 2);
        Check.due("P20 the pass is on its way again", x.message(0, 1, 0, 0), 1);
        Check.due("P20", x.undo(), 1);
        Check.due("P20 0 has it again", x.now(10), 1);
        Check.due("P20 no row", x.member(0, 30), 0);
    }
}
