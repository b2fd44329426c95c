/** Promises 4 (text), 5 (fault), and the TEXT and the FAULTS of the terms. */
public final class TextTest {
    public static void main(String[] args) {
        goodTexts();
        tokens();
        numbers();
        rankLines();
        actsThatCannotBe();
        theFirstAlongTheText();
        sixHundredBytes();
        faultyTextsChangeNothing();
        goodTextsBeginAnew();
        Check.close();
    }

    private static void fault(String text, int place, int kind) {
        Check.faulty(text, place, kind);
    }

    private static void good(String text, int acts) {
        Check.good(text, acts);
    }

    private static void goodTexts() {
        Check.due("P5 ahead of any", new TravelToken().fault(), 0);
        good("members 2;", 0);
        good("members 6;", 0);
        good("members 06 ;", 0);
        good(" \n members\n2\n;\n \n", 0);
        good("members 3;rank 0 1;rank 2 9;", 0);
        good("members 3;rank 00 09;", 0);
        good("members 2;ask 0;leave 0;ask 1;send 1 0;send 0 1;leave 1;ask 0;suspect 0;lose 0 1;settle 99;", 10);
        good("members 2;settle 1;", 1);
        good("members 2;settle 01;settle 99;", 2);
        good("members 2;ask 01;send 01 00;", 2);
    }

    private static void tokens() {
        fault("", 0, 1);
        fault("   ", 3, 1);
        fault("member 2;", 0, 1);
        fault("memberss 2;", 0, 1);
        fault("members2;", 0, 1);
        fault("Members 2;", 0, 1);
        fault(" 2;", 1, 1);
        fault(";", 0, 1);
        fault("members", 7, 1);
        fault("members ", 8, 1);
        fault("members 2", 9, 1);
        fault("members 2  ", 11, 1);
        fault("members ;", 8, 1);
        fault("members two;", 8, 1);
        fault("members 002;", 8, 1);
        fault("members 2a;", 8, 1);
        fault("members -2;", 8, 1);
        fault("members 2 3;", 10, 1);
        fault("members 2;;", 10, 1);
        fault("members 2;members 2;", 10, 1);
        fault("members 2;9", 10, 1);
        fault("members 2;undo;", 10, 1);
        fault("members 2;ask", 13, 1);
        fault("members 2;ask;", 13, 1);
        fault("members 2;ask1;", 10, 1);
        fault("members 2;askz 1;", 10, 1);
        fault("members 2;aask 1;", 10, 1);
        fault("members 2;ask 0z;", 14, 1);
        fault("members 2;ask 1", 15, 1);
        fault("members 2;ask 1 0;", 16, 1);
        fault("members 2;ask 100;", 14, 1);
        fault("members 2;ask a;", 14, 1);
        fault("members 2;send 1;", 16, 1);
        fault("members 2;lose 1;", 16, 1);
        fault("members 2;leave 0 0;", 18, 1);
        fault("members 2;settle 1 1;", 19, 1);
        fault("members 2;settle 100;", 17, 1);
        fault("members 2;\task 1;", 10, 1);
        fault("members 2;\rask 1;", 10, 1);
        fault("members 2;ask 1;" + (char) 233, 16, 1);
        fault("members 2;ask 1;" + (char) 0, 16, 1);
        fault("members 2;ask 1,", 15, 1);
        fault("members 2;rank", 14, 1);
        fault("members 2;rank 1;", 16, 1);
        fault("members 2;rank a 1;", 15, 1);
        fault("members 2;rank 1 a;", 17, 1);
        fault("members 2;rank 1 1 ask 1;", 19, 1);
        fault("members 2;rank 1 100;", 17, 1);
        fault("members 2;ask 1;rank 1 1;", 16, 1);
    }

    private static void numbers() {
        fault("members 1;", 8, 2);
        fault("members 0;", 8, 2);
        fault("members 7;", 8, 2);
        fault("members 99", 8, 2);
        fault("members 2;rank 2 1;", 15, 2);
        fault("members 6;rank 6 1;", 15, 2);
        fault("members 2;rank 99 99;", 15, 2);
        fault("members 2;rank 1 10;", 17, 2);
        fault("members 2;settle 0;", 17, 2);
        fault("members 2;settle 00;", 17, 2);
    }

    private static void rankLines() {
        String twenty = "rank 0 1;".repeat(20);
        good("members 2;" + twenty, 0);
        good("members 2;" + twenty + "ask 1;", 1);
        fault("members 2;" + twenty + "rank 0 1;", 190, 3);
        fault("members 2;" + twenty + "\n rank", 192, 3);
        fault("members 2;" + twenty + "rank1", 190, 1);
        fault("members 2;" + twenty + "ask 1;rank 0 1;", 196, 1);
        TravelToken x = Check.of("members 3;rank 1 2;rank 2 4;rank 1 7;");
        Check.due("P4 rank of 0", Check.member(x, 0, 0), 0);
        Check.due("P4 a later rank takes the place", Check.member(x, 1, 0), 7);
        Check.due("P4 rank of 2", Check.member(x, 2, 0), 4);
        Check.due("P4 known so", Check.member(x, 2, 21), 7);
    }

    private static void actsThatCannotBe() {
        fault("members 2;ask 2;", 15, 4);
        fault("members 2;ask 99 ;", 17, 4);
        fault("members 2;ask 0;ask 0;", 21, 4);
        fault("members 2;ask 1;ask 1;", 21, 4);
        fault("members 2;leave 0;", 17, 4);
        fault("members 2;leave 2;", 17, 4);
        fault("members 2;suspect 0;", 19, 4);
        fault("members 2;suspect 7;", 19, 4);
        fault("members 2;send 0 1;", 18, 4);
        fault("members 2;send 0 0;", 18, 4);
        fault("members 2;lose 1 0;", 18, 4);
        fault("members 2;ask 1;send 1 2;", 24, 4);
        fault("members 6;ask 1;ask 2;ask 3;ask 4;suspect 1;suspect 1;suspect 1;suspect 1;ask 5;", 79, 4);
        fault("members 6;ask 1;ask 2;ask 3;ask 4;suspect 1;suspect 1;suspect 1;suspect 1;suspect 1;", 83, 4);
    }

    private static void theFirstAlongTheText() {
        fault("members 2;ask 9;settle 0;", 15, 4);
        fault("members 2;settle 0;ask 9;", 17, 2);
        fault("members 2;ask 9 !", 16, 1);
        fault("members 2;ask 9;!", 15, 4);
        fault("members 7!", 8, 2);
        fault("members 2;rank 5 77;", 15, 2);
    }

    private static void sixHundredBytes() {
        String head = "members 2;ask 1;";
        good(head + " ".repeat(600 - head.length()), 1);
        fault(head + " ".repeat(601 - head.length()), 600, 1);
        fault(head + " ".repeat(599 - head.length()) + "!", 599, 1);
        fault(head + " ".repeat(599 - head.length()) + "!   ", 599, 1);
        fault(head + " ".repeat(600 - head.length()) + "!", 600, 1);
        String upTo590 = head + " ".repeat(590 - head.length());
        good(upTo590 + "send 1  0;", 2);
        fault(upTo590 + "send 1  0; ", 600, 1);
        fault(upTo590 + "send 1   0;", 600, 1);
        fault(upTo590 + "send 1   ", 599, 1);
        fault(upTo590 + "send 1    ", 600, 1);
        fault(upTo590 + "ask   1  ;", 599, 4);
        fault(upTo590 + "ask   1  ; !", 599, 4);
        fault(upTo590 + "ask   1   ;", 600, 1);
        // A token that begins ahead of 600 is read whole.
        fault(upTo590 + "settle   00;", 599, 2);
        fault(upTo590 + "settle   01;", 600, 1);
        fault(upTo590 + "settle   001;", 599, 1);
        fault(upTo590 + "settle   1x;", 599, 1);
        fault(upTo590 + "      settle 1;", 600, 1);
        fault(upTo590 + "      settles 1;", 596, 1);
        fault(upTo590 + "settle   " + "1".repeat(41), 599, 1);
        fault("a".repeat(640), 0, 1);
        fault(" ".repeat(640), 600, 1);
        // The shortest acts, as many as there is room for.
        TravelToken x = new TravelToken();
        Check.due("P4 many acts", Check.read(x, "members 2;" + "ask 0;leave 0;".repeat(42)), 84);
        Check.due("P4 were all done", x.now(7), 42);
        fault("members 2;" + "ask 1;".repeat(98), 21, 4);
        good("members 2;ask 1;" + "ask 0;leave 0;".repeat(41) + "ask 0;", 84);
        fault("members 2;ask 1;" + "ask 0;leave 0;".repeat(41) + "ask 1;", 595, 4);
    }

    private static void faultyTextsChangeNothing() {
        TravelToken x = Check.of("members 4;rank 2 3;ask 0;ask 2;");
        x.ask(1);
        Check.due("P4 a fault", Check.read(x, "members 3;ask 1;ask 1;"), -22);
        Check.due("P5 its kind", x.fault(), 4);
        Check.due("P4 members stay", x.now(0), 4);
        Check.due("P4 messages stay", x.now(1), 6);
        Check.due("P4 who is in stays", x.now(9), 1);
        Check.due("P4 who asks stays", x.now(8), 6);
        Check.due("P4 ranks stay", Check.member(x, 0, 22), 3);
        Check.due("P4 what can be undone stays", x.now(11), 1);
        Check.due("P5 is of the latest", x.fault(), 4);
        Check.due("P4 another fault", Check.read(x, "members 9;"), -9);
        Check.due("P5 another kind", x.fault(), 2);
        x.ask(3);
        x.undo();
        Check.due("P5 stays with other calls", x.fault(), 2);
        Check.due("P20 is undone still", x.undo(), 0);
        Check.due("P20 1 asks no more", x.now(8), 4);
        Check.due("P4 a good one", Check.read(x, "members 2;"), 0);
        Check.due("P5 0 without one", x.fault(), 0);
    }

    private static void goodTextsBeginAnew() {
        TravelToken x = Check.of("members 4;rank 2 3;ask 1;suspect 1;suspect 1;lose 1 0;lose 1 0;ask 0;send 1 0;settle 1;");
        Check.due("P6 died", x.now(4), 1);
        Check.due("P6 lost", x.now(6), 2);
        Check.due("P6 left", x.now(7), 1);
        x.settle(1);
        beginsAnew(x);
        // Once more, with much that a text must wipe out wherever it is held.
        TravelToken y = Check.of("members 6;rank 1 3;ask 0;ask 1;ask 2;ask 3;send 1 0;send 2 0;send 3 0;leave 0;send 0 1;"
                + "leave 1;lose 1 4;");
        y.suspect(3);
        y.order(3);
        beginsAnew(y);
        TravelToken z = Check.of("members 6;rank 1 3;ask 0;ask 1;ask 2;send 1 0;send 2 0;suspect 2;send 2 0;");
        z.soon(5);
        beginsAnew(z);
        TravelToken v = Check.of("members 2;ask 1;send 1 0;lose 0 1;suspect 1;send 1 0;send 0 1;");
        v.would(0, 1);
        v.soon(0);
        beginsAnew(v);
        // Twice, so that it makes no difference where the object holds what was ahead.
        TravelToken u = Check.of("members 6;ask 0;leave 0;ask 1;suspect 1;suspect 1;send 1 0;send 1 0;send 1 0;lose 1 2;"
                + "suspect 1;send 1 3;send 1 3;send 3 1;");
        u.would(1, 0);
        beginsAnew(u);
        beginsAnew(u);
        Check.due("P4 anew, no mark of old", Check.read(u, "members 6;ask 1;ask 2;"), 2);
        Check.due("P6 valid", u.now(3), 1);
        TravelToken t = Check.of("members 6;ask 0;leave 0;ask 1;send 1 0;send 0 1;leave 1;ask 0;send 0 1;lose 1 0;suspect 0;");
        t.would(0, 1);
        beginsAnew(t);
        beginsAnew(t);
        TravelToken s = Check.of("members 2;ask 0;ask 1;suspect 1;suspect 1;send 1 0;send 1 0;send 1 0;leave 0;");
        Check.due("P10 a pass of mark 3 is on its way", s.message(0, 1, 2, 1), 3);
        Check.read(s, "members 2;");
        Check.due("P4 anew, with other messages", Check.read(s, "members 6;ask 1;ask 2;ask 3;ask 4;ask 5;"), 5);
        Check.due("P6 25 messages", s.now(1), 25);
        Check.due("P6 one pass", s.now(2), 1);
        Check.due("P6 valid", s.now(3), 1);
        // A text with a fault was half done ahead of this one.
        TravelToken w = new TravelToken();
        Check.read(w, "members 6;rank 1 3;ask 0;ask 1;ask 2;send 1 0;send 2 0;leave 0;send 0 1;ask 1;");
        beginsAnew(w);
    }

    private static void beginsAnew(TravelToken x) {
        Check.due("P4 anew", Check.read(x, "members 5;"), 0);
        int[] due = {5, 0, 1, 1, 0, 0, 0, 0, 0, 0, 1, 0, 0};
        for (int what = 0; what < due.length; what++) {
            Check.due("P4 anew, now(" + what + ")", x.now(what), due[what]);
        }
        for (int m = 0; m < 5; m++) {
            for (int what = 0; what < 9; what++) {
                int want = what == 3 || what == 6 && m == 0 ? 1 : 0;
                Check.due("P4 anew, member(" + m + ", " + what + ")", Check.member(x, m, what), want);
            }
            for (int other = 0; other < 5; other++) {
                Check.due("P4 anew, seen", Check.member(x, m, 10 + other), 0);
                Check.due("P4 anew, ranks", Check.member(x, m, 20 + other), 0);
                Check.due("P4 anew, row", Check.member(x, m, 30 + other), 0);
            }
        }
        Check.due("P4 anew, no queue", x.pass(0, 0), 0);
        for (int m = 0; m < 5; m++) {
            Check.due("P4 anew, last of " + m, x.pass(0, 10 + m), 0);
        }
        Check.due("P20 nothing can be undone", x.undo(), -1);
    }
}
