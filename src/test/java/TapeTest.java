/** Promises 2 (feed), 3 (end). */
public final class TapeTest {
    public static void main(String[] args) {
        feedsHighestByteFirst();
        feedsUpTo640();
        endCutsOnly();
        endOfEachLength();
        everyByteOfANumber();
        aFullTapeIsReadStill();
        Check.close();
    }

    private static void feedsHighestByteFirst() {
        TravelToken x = new TravelToken();
        // "memb" "ers " "3;as" "k 0;" "    "
        Check.due("P2 feed", x.feed(0x6d656d62, 0x65727320, 0x333b6173, 0x6b20303b, 0x20202020), 20);
        Check.due("P2 the bytes make a text", x.text(), 1);
        Check.due("P2 of three", x.now(0), 3);
        Check.due("P2 the tape is empty again", x.now(12), 0);
        Check.due("P2 feed of high bytes", x.feed(-1, -1, -1, -1, -1), 20);
        Check.due("P2 high bytes are no token", x.text(), -1);
        Check.due("P2 kind", x.fault(), 1);
        // The five numbers come in their order: "memb" "ers2" is a mixed run at 0, "ask " at 12 is behind it.
        x.feed(0x6d656d62, 0x65727320, 0x323b2020, 0x61736b20, 0x313b2020);
        Check.due("P2 order of the numbers", x.text(), 1);
        Check.due("P2 1 asks", x.now(8), 2);
    }

    private static void feedsUpTo640() {
        TravelToken x = new TravelToken();
        for (int i = 1; i <= 32; i++) {
            Check.due("P2 feed up to 640", x.feed(0, 0, 0, 0, 0), 20 * i);
        }
        Check.due("P2 feed beyond 640", x.feed(0, 0, 0, 0, 0), -1);
        Check.due("P2 none came", x.now(12), 640);
        Check.due("P3 end(621)", x.end(621), true);
        Check.due("P2 641 would be more", x.feed(0, 0, 0, 0, 0), -1);
        Check.due("P2 none came", x.now(12), 621);
        Check.due("P3 end(620)", x.end(620), true);
        Check.due("P2 640 would not", x.feed(0, 0, 0, 0, 0), 640);
    }

    private static void endCutsOnly() {
        TravelToken x = new TravelToken();
        Check.due("P3 end(0) of none", x.end(0), true);
        Check.due("P3 end(1) of none", x.end(1), false);
        x.feed(1, 2, 3, 4, 5);
        Check.due("P3 end(-1)", x.end(-1), false);
        Check.due("P3 least number", x.end(Integer.MIN_VALUE), false);
        Check.due("P3 end(21)", x.end(21), false);
        Check.due("P3 greatest number", x.end(Integer.MAX_VALUE), false);
        Check.due("P3 all stay", x.now(12), 20);
        Check.due("P3 end(20)", x.end(20), true);
        Check.due("P3 all stay", x.now(12), 20);
        Check.due("P3 end(7)", x.end(7), true);
        Check.due("P3 seven stay", x.now(12), 7);
        Check.due("P3 end(8)", x.end(8), false);
        Check.due("P2 behind the seven", x.feed(0, 0, 0, 0, 0), 27);
        x.end(0);
        Check.feed(x, "members 2;ask 0;xxxx");
        x.end(16);
        Check.feed(x, "ask 1;");
        Check.due("P3 the first 16 and those behind them", x.text(), 2);
    }

    private static void endOfEachLength() {
        for (int length : new int[] {0, 1, 19, 20, 21, 600, 601, 639, 640}) {
            TravelToken x = new TravelToken();
            for (int feeds = 0; feeds < 32 && x.now(12) < length; feeds++) {
                x.feed(0, 0, 0, 0, 0);
            }
            Check.due("P3 end(" + length + ")", x.end(length), true);
            Check.due("P3 one more", x.end(length + 1), false);
            Check.due("P3 one below 0", x.end(-1), false);
            Check.due("P3 all stay", x.now(12), length);
            Check.due("P3 all of them", x.end(length), true);
            Check.due("P3 all stay", x.now(12), length);
            Check.due("P3 one less", x.end(length - 1), length > 0);
            Check.due("P3 one less", x.now(12), Math.max(0, length - 1));
            Check.due("P3 none", x.end(0), true);
            Check.due("P3 none", x.now(12), 0);
        }
    }

    /** Each of the twenty bytes in turn is the only one that is no blank: its place is told. */
    private static void everyByteOfANumber() {
        for (int place = 0; place < 20; place++) {
            int[] fives = new int[5];
            for (int i = 0; i < 5; i++) {
                fives[i] = 0x20202020;
            }
            int shift = 24 - place % 4 * 8;
            fives[place / 4] ^= 0xdf << shift;
            TravelToken x = new TravelToken();
            x.feed(fives[0], fives[1], fives[2], fives[3], fives[4]);
            Check.due("P2 the byte at " + place, x.text(), -1 - place);
            x.feed(0x20202020, 0x0a0a0a0a, 0x20202020, 0x0a0a0a0a, 0x20202020);
            x.feed(fives[0], fives[1], fives[2], fives[3], fives[4]);
            Check.due("P2 behind twenty", x.text(), -21 - place);
        }
    }

    private static void aFullTapeIsReadStill() {
        TravelToken x = new TravelToken();
        Check.feed(x, "members 3;" + " ".repeat(630));
        Check.due("P2 full", x.now(12), 640);
        Check.due("P2 refused", x.feed(-1, -1, -1, -1, -1), -1);
        Check.due("P3 refused", x.end(641), false);
        x.end(600);
        Check.due("P4 what was refused changed no byte", x.text(), 0);
        Check.due("P2 there is room again", x.feed(0, 0, 0, 0, 0), 20);
    }
}
