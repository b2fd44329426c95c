/** Promises 2 (feed), 3 (end). */
public final class TapeTest {
    public static void main(String[] args) {
        feedsHighestByteFirst();
        feedsUpTo640();
        endCutsOnly();
        Check.close();
    }

    private static void feedsHighestByteFirst() {
        TravelToken x = new TravelToken();
        // "memb" "ers " "3;as" "k 0;" "    "
        Check.due("P2 feed", x.feed(0x6d656d62, 0x65727320, 0x333b6173, 0x6b20303b, 0x20202020), 20);
        Check.due("P2 the bytes make a text", x.text(), 1);
        Check.due("P2 of three", x.now(0), 3);
        Check.due("P2 the tape is empty again", x.now(12), 0);
        Check.due("P2 feed of high bytes", x.feed(-1, -1, -1, -1, -1), 20);
        Check.due("P2 high bytes are no token", x.text(), -1);
        Check.due("P2 kind", x.fault(), 1);
        // The five numbers come in their order: "memb" "ers2" is a mixed run at 0, "ask " at 12 is behind it.
        x.feed(0x6d656d62, 0x65727320, 0x323b2020, 0x61736b20, 0x313b2020);
        Check.due("P2 order of the numbers", x.text(), 1);
        Check.due("P2 1 asks", x.now(8), 2);
    }

    private static void feedsUpTo640() {
        TravelToken x = new TravelToken();
        for (int i = 1; i <= 32; i++) {
            Check.due("P2 feed up to 640", x.feed(0, 0, 0, 0, 0), 20 * i);
        }
        Check.due("P2 feed beyond 640", x.feed(0, 0, 0, 0, 0), -1);
        Check.due("P2 none came", x.now(12), 640);
        Check.due("P3 end(621)", x.end(621), true);
        Check.due("P2 641 would be more", x.feed(0, 0, 0, 0, 0), -1);
        Check.due("P2 none came", x.now(12), 621);
        Check.due("P3 end(620)", x.end(620), true);
        Check.due("P2 640 would not", x.feed(0, 0, 0, 0, 0), 640);
    }

    private static void endCutsOnly() {
        TravelToken x = new TravelToken();
        Check.due("P3 end(0) of none", x.end(0), true);
        Check.due("P3 end(1) of none", x.end(1), false);
        x.feed(1, 2, 3, 4, 5);
        Check.due("P3 end(-1)", x.end(-1), false);
        Check.due("P3 least number", x.end(Integer.MIN_VALUE), false);
        Check.due("P3 end(21)", x.end(21), false);
        Check.due("P3 greatest number", x.end(Integer.MAX_VALUE), false);
        Check.due("P3 all stay", x.now(12), 20);
        Check.due("P3 end(20)", x.end(20), true);
        Check.due("P3 all stay", x.now(12), 20);
        Check.due("P3 end(7)", x.end(7), true);
        Check.due("P3 seven stay", x.now(12), 7);
        Check.due("P3 end(8)", x.end(8), false);
        Check.due("P2 behind the seven", x.feed(0, 0, 0, 0, 0), 27);
        x.end(0);
        Check.feed(x, "members 2;ask 0;xxxx");
        x.end(16);
        Check.feed(x, "ask 1;");
        Check.due("P3 the first 16 and those behind them", x.text(), 2);
    }
}
