/** The edges of a TEXT, of its TOKENS, LINES and NUMBERS, and of the FAULTS' kinds and places. */
public final class TextEdgesTest {
    private static final int LONGEST = 600;

    public static void main(String[] args) {
        everyByteBehindALine();
        everyByteBehindANumber();
        everyByteBehindAWord();
        everyLetterOfAWord();
        numbersHaveOneOrTwoDigits();
        membersAreTwoToSix();
        ranksAreOfMembersThereAre();
        ranksAreZeroToNine();
        aLaterRankTakesThePlace();
        twentyRankLines();
        membersOfActsAreUpTo99();
        timesAreOneTo99();
        everyTokenThatCannotCome();
        theEndInsteadOfAToken();
        actsThatAnswerBelowZero();
        actsUpTo40Messages();
        asManyActsAsThereIsRoomFor();
        settleIsNeverAFault();
        theFirstFaultAlongTheText();
        upTo600Bytes();
        tokensAcrossTheEnd();
        faultsBeside600();
        emptyTapes();
        theKindStaysUntilTheNextText();
        Check.close();
    }

    private static boolean isBlank(int b) {
        return b == 32 || b == 10;
    }

    private static boolean isLetter(int b) {
        return b >= 97 && b <= 122;
    }

    private static boolean isDigit(int b) {
        return b >= 48 && b <= 57;
    }

    private static String blanks(int n) {
        return " ".repeat(n);
    }

    private static void everyByteBehindALine() {
        for (int b = 0; b < 256; b++) {
            String text = "members 2;" + (char) b + "ask 1;";
            if (isBlank(b)) {
                Check.good(text, 1);
            } else {
                Check.faulty(text, 10, 1);
            }
        }
    }

    /** A NUMBER goes on as long as small letters and digits do: the place tells which bytes these are. */
    private static void everyByteBehindANumber() {
        for (int b = 0; b < 256; b++) {
            String text = "members 2;ask 1" + (char) b + ";";
            if (isBlank(b)) {
                Check.good(text, 1);
            } else if (isDigit(b)) {
                Check.faulty(text, 16, 4);
            } else if (isLetter(b)) {
                Check.faulty(text, 14, 1);
            } else {
                Check.faulty(text, b == ';' ? 16 : 15, 1);
            }
        }
    }

    private static void everyByteBehindAWord() {
        for (int b = 0; b < 256; b++) {
            String text = "members 2;ask" + (char) b + "1;";
            if (isBlank(b)) {
                Check.good(text, 1);
            } else {
                Check.faulty(text, isLetter(b) || isDigit(b) ? 10 : 13, 1);
            }
        }
        Check.good("members\n\n  2 \n;\n", 0);
        Check.good("members 2;ask 1;send 1 0;", 2);
        Check.faulty("members 2;send 10;", 17, 1);
    }

    /** Each WORD with a letter changed, left out, or put in at each of its places. */
    private static void everyLetterOfAWord() {
        String[] lines = {"members 2;", "rank 1 5;", "ask 1;", "leave 0;", "suspect 1;", "send 1 0;", "lose 1 0;",
            "settle 1;"};
        String[] heads = {"", "members 2;", "members 2;", "members 2;ask 0;", "members 2;ask 1;", "members 2;ask 1;",
            "members 2;ask 1;", "members 2;"};
        for (int i = 0; i < lines.length; i++) {
            int letters = lines[i].indexOf(' ');
            Check.due("P5 of " + lines[i], Check.of(heads[i] + lines[i]).fault(), 0);
            for (int at = 0; at < letters; at++) {
                String before = lines[i].substring(0, at);
                String behind = lines[i].substring(at + 1);
                char letter = lines[i].charAt(at);
                Check.faulty(heads[i] + before + behind, heads[i].length(), 1);
                Check.faulty(heads[i] + before + (char) (letter == 'z' ? 'a' : letter + 1) + behind, heads[i].length(), 1);
                Check.faulty(heads[i] + before + letter + letter + behind, heads[i].length(), 1);
            }
        }
    }

    private static void numbersHaveOneOrTwoDigits() {
        Check.faulty("members 2;settle ;", 17, 1);
        for (int n = 1; n <= 9; n++) {
            Check.good("members 2;settle " + n + ";", 1);
            Check.good("members 2;settle 0" + n + ";", 1);
            Check.faulty("members 2;settle 00" + n + ";", 17, 1);
        }
        for (int n = 100; n <= 999; n += 31) {
            Check.faulty("members 2;settle " + n + ";", 17, 1);
        }
        Check.faulty("members 2;settle 000;", 17, 1);
        Check.faulty("members 2;settle 4294967297;", 17, 1);
        Check.faulty("members 4294967298;", 8, 1);
        Check.faulty("members 2;settle +1;", 17, 1);
        Check.faulty("members 2;settle -1;", 17, 1);
    }

    private static void membersAreTwoToSix() {
        for (int n = 0; n <= 99; n++) {
            String two = (n < 10 ? "0" : "") + n;
            for (String told : new String[] {"" + n, two}) {
                String text = "members " + told + ";";
                if (n >= 2 && n <= 6) {
                    Check.due("P6 of " + text, Check.good(text, 0).now(0), n);
                } else {
                    Check.faulty(text, 8, 2);
                }
            }
        }
    }

    private static void ranksAreOfMembersThereAre() {
        for (int n = 2; n <= 6; n++) {
            for (int m = 0; m <= 99; m++) {
                String text = "members " + n + ";rank " + m + " 5;";
                if (m < n) {
                    Check.due("P7 of " + text, Check.member(Check.good(text, 0), m, 0), 5);
                } else {
                    Check.faulty(text, 15, 2);
                }
            }
        }
    }

    private static void ranksAreZeroToNine() {
        for (int r = 0; r <= 99; r++) {
            String text = "members 3;rank 2 " + r + ";";
            if (r <= 9) {
                TravelToken x = Check.good(text, 0);
                Check.due("P7 of " + text, Check.member(x, 2, 0), r);
                Check.due("P7 known so by 0", Check.member(x, 0, 22), r);
                Check.due("P7 of another one", Check.member(x, 1, 0), 0);
            } else {
                Check.faulty(text, 17, 2);
            }
        }
        Check.good("members 3;rank 2 00;rank 2 09;", 0);
        Check.faulty("members 3;rank 2 009;", 17, 1);
    }

    private static void aLaterRankTakesThePlace() {
        for (int m = 0; m < 6; m++) {
            TravelToken x = Check.of("members 6;rank " + m + " 9;rank " + m + " 0;");
            Check.due("P4 0 takes the place of 9", Check.member(x, m, 0), 0);
            x = Check.of("members 6;rank " + m + " 0;rank " + m + " 9;rank " + m + " 1;");
            Check.due("P4 1 takes the place of 9", Check.member(x, m, 0), 1);
            Check.due("P4 known so by all", Check.member(x, (m + 1) % 6, 20 + m), 1);
            Check.due("P4 a text without ranks", Check.read(x, "members 6;"), 0);
            Check.due("P4 all ranks are 0 again", Check.member(x, m, 0), 0);
        }
    }

    private static void twentyRankLines() {
        for (int lines = 0; lines <= 23; lines++) {
            String text = "members 2;" + "rank 1 3;".repeat(lines);
            if (lines <= 20) {
                Check.good(text, 0);
                Check.good(text + "ask 1;", 1);
            } else {
                Check.faulty(text, 190, 3);
                Check.faulty(text + "ask 1;ask 1;", 190, 3);
            }
        }
        String twenty = "members 2;" + "rank 1 3;".repeat(20);
        TravelToken x = Check.of("members 2;" + "rank 1 3;".repeat(19) + "rank 1 8;");
        Check.due("P4 the twentieth counts", Check.member(x, 1, 0), 8);
        // The WORD alone is enough, whatever stands behind it.
        for (String rest : new String[] {"rank", "rank;", "rank 9 99;", "rank !", "rank 1 3"}) {
            Check.faulty(twenty + rest, 190, 3);
            Check.faulty(twenty + " \n" + rest, 192, 3);
        }
        Check.faulty(twenty + "ranks 1 3;", 190, 1);
        Check.faulty(twenty + "rank1 3;", 190, 1);
        // Behind an ACT no 'rank' can come: of one TOKEN the FAULT that stands first in the list.
        Check.faulty(twenty + "ask 1;rank 1 3;", 196, 1);
        Check.faulty("members 2;ask 1;rank 1 3;", 16, 1);
    }

    private static void membersOfActsAreUpTo99() {
        for (int m = 0; m <= 99; m++) {
            int digits = m < 10 ? 1 : 2;
            actOfOne("members 2;ask " + m + ";", m < 2, 14 + digits);
            actOfOne("members 2;ask 1;suspect " + m + ";", m == 1, 24 + digits);
            actOfOne("members 2;ask 0;leave " + m + ";", m == 0, 22 + digits);
            actOfOne("members 2;ask 1;send " + m + " 0;", m == 1, 23 + digits);
            actOfOne("members 2;ask 1;send 1 " + m + ";", m == 0, 23 + digits);
            actOfOne("members 2;ask 1;lose " + m + " 0;", m == 1, 23 + digits);
            actOfOne("members 2;ask 1;lose 1 " + m + ";", m == 0, 23 + digits);
        }
        for (String act : new String[] {"ask", "leave", "suspect"}) {
            Check.faulty("members 2;" + act + " 99;", 13 + act.length(), 4);
            Check.faulty("members 2;" + act + " 100;", 11 + act.length(), 1);
        }
        for (String act : new String[] {"send", "lose"}) {
            Check.faulty("members 2;" + act + " 99 99;", 20, 4);
            Check.faulty("members 2;" + act + " 100 99;", 15, 1);
            Check.faulty("members 2;" + act + " 99 100;", 18, 1);
        }
    }

    /** The place is that of the last ; if the ACT can't be. */
    private static void actOfOne(String text, boolean can, int place) {
        if (can) {
            Check.good(text, text.split(";").length - 1);
        } else {
            Check.faulty(text, place, 4);
        }
    }

    private static void timesAreOneTo99() {
        Check.faulty("members 2;settle 0;", 17, 2);
        Check.faulty("members 2;settle 00;", 17, 2);
        for (int times = 1; times <= 99; times++) {
            Check.good("members 2;settle " + times + ";", 1);
        }
        Check.faulty("members 2;settle 100;", 17, 1);
        TravelToken x = Check.good("members 3;ask 1;settle 1;", 2);
        Check.due("P4 settled by one", x.now(1), 2);
        x = Check.good("members 3;ask 1;settle 02;", 2);
        Check.due("P4 settled by two", x.now(1), 1);
        x = Check.good("members 3;ask 1;settle 99;", 2);
        Check.due("P4 settled by all", x.now(1), 0);
    }

    /** Each LINE with each of its TOKENS in turn changed to what can't come there. */
    private static void everyTokenThatCannotCome() {
        lineOfTokens("", 0, "members", "2", ";");
        lineOfTokens("members 2;", 0, "rank", "1", "5", ";");
        lineOfTokens("members 2;rank 0 1;", 0, "rank", "1", "5", ";");
        lineOfTokens("members 2;", 1, "ask", "1", ";");
        lineOfTokens("members 2;rank 0 1;", 1, "ask", "1", ";");
        lineOfTokens("members 2;ask 0;", 2, "leave", "0", ";");
        lineOfTokens("members 2;ask 1;", 2, "suspect", "1", ";");
        lineOfTokens("members 2;ask 1;", 2, "send", "1", "0", ";");
        lineOfTokens("members 2;ask 1;", 2, "lose", "1", "0", ";");
        lineOfTokens("members 2;ask 1;", 2, "settle", "1", ";");
    }

    private static void lineOfTokens(String head, int acts, String... tokens) {
        String[] never = {"!", "A", "a1", "1a", "123", "=", "" + (char) 255, "(", "word", "" + (char) 0,
            "members", "undo", "asks", "as"};
        StringBuilder ahead = new StringBuilder(head);
        for (String token : tokens) {
            int place = ahead.length();
            for (String other : never) {
                if (!other.equals(token)) {
                    Check.faulty(ahead + other, place, 1);
                    Check.faulty(ahead + "\n" + other + " 1 1;", place + 1, 1);
                }
            }
            if (!token.equals(";")) {
                Check.faulty(ahead + ";", place, 1);
            }
            if (!isDigit(token.charAt(0))) {
                Check.faulty(ahead + "1", place, 1);
            }
            ahead.append(token).append(' ');
        }
        Check.good(ahead.toString(), acts);
    }

    /** A TEXT cut off at each of its bytes: only behind a ; it is one still. */
    private static void theEndInsteadOfAToken() {
        String text = "members 2;rank 1 5;ask 1;suspect 1;send 1 0;lose 1 0;settle 1;ask 0;leave 0;";
        for (int n = 0; n < text.length(); n++) {
            String cut = text.substring(0, n);
            int start = n;
            while (start > 0 && isLetter(cut.charAt(start - 1)) && text.charAt(n) != ' ') {
                start--;
            }
            if (cut.endsWith(";")) {
                Check.due("P5 behind a ;", Check.of(cut).fault(), 0);
            } else {
                Check.faulty(cut, start, 1);
            }
            if (!cut.endsWith(";") && start == n) {
                Check.faulty(cut + " \n ", n + 3, 1);
            }
        }
    }

    private static void actsThatAnswerBelowZero() {
        // NONE, and each -2.
        Check.faulty("members 6;ask 6;", 15, 4);
        Check.faulty("members 2;ask 1;ask 1;", 21, 4);
        Check.faulty("members 2;ask 0;ask 0;", 21, 4);
        Check.faulty("members 6;leave 6;", 17, 4);
        Check.faulty("members 2;leave 0;", 17, 4);
        Check.faulty("members 2;ask 1;leave 1;", 23, 4);
        Check.faulty("members 2;ask 0;leave 0;leave 0;", 31, 4);
        Check.faulty("members 6;suspect 6;", 19, 4);
        Check.faulty("members 2;suspect 0;", 19, 4);
        Check.faulty("members 2;ask 0;suspect 0;", 25, 4);
        for (String act : new String[] {"send", "lose"}) {
            Check.faulty("members 2;" + act + " 0 1;", 18, 4);
            Check.faulty("members 2;ask 1;" + act + " 0 1;", 24, 4);
            Check.faulty("members 2;ask 1;" + act + " 1 1;", 24, 4);
            Check.faulty("members 2;ask 1;" + act + " 1 2;", 24, 4);
            Check.faulty("members 2;ask 1;" + act + " 1 0;" + act + " 1 0;", 33, 4);
        }
        // The place is that of the ; itself.
        Check.faulty("members 2;ask 2  \n ;", 19, 4);
        Check.faulty("members 2;send 0 1\n\n;ask 1;", 20, 4);
    }

    private static void actsUpTo40Messages() {
        String forty = "members 2;ask 1;" + "suspect 1;".repeat(39);
        Check.due("P6 40 messages", Check.good(forty, 40).now(1), 40);
        Check.faulty(forty + "suspect 1;", forty.length() + 9, 4);
        Check.due("P6 0 sends none", Check.good(forty + "ask 0;", 41).now(1), 40);
        Check.good(forty + "lose 1 0;suspect 1;", 42);
        String thirtyFive = "members 6;ask 1;ask 2;" + "suspect 1;".repeat(5);
        Check.due("P6 40 messages", Check.good(thirtyFive + "ask 3;", 8).now(1), 40);
        Check.faulty(thirtyFive + "ask 3;ask 4;", thirtyFive.length() + 11, 4);
        Check.faulty(thirtyFive + "ask 3;lose 1 0;lose 1 0;lose 1 0;lose 1 0;ask 4;",
                thirtyFive.length() + 47, 4);
        Check.good(thirtyFive + "ask 3;lose 1 0;lose 1 0;lose 1 0;lose 1 0;lose 1 0;ask 4;", 14);
    }

    private static void asManyActsAsThereIsRoomFor() {
        String text = "members 6;ask 0;ask 1;ask 2;ask 3;ask 4;ask 5;" + "leave 0;ask 0;".repeat(39) + "leave 0;";
        Check.due("P4 it is full", text.length(), LONGEST);
        TravelToken x = Check.good(text, 85);
        Check.due("P4 all were done", x.now(7), 40);
        Check.due("P4 nobody was seen", x.now(10), 1);
        Check.faulty(text + " ", LONGEST, 1);
    }

    private static void settleIsNeverAFault() {
        Check.good("members 2;settle 99;settle 1;settle 99;", 3);
        Check.good("members 2;ask 0;settle 1;settle 1;", 3);
    }

    private static void theFirstFaultAlongTheText() {
        // Each pair of kinds, in both orders.
        String twenty = "members 2;" + "rank 1 3;".repeat(20);
        Check.faulty("members 2;ask ! ask 100;", 14, 1);
        Check.faulty("members 7 !", 8, 2);
        Check.faulty("members ! 7", 8, 1);
        Check.faulty("members 2;rank 2 !", 15, 2);
        Check.faulty("members 2;rank ! 10", 15, 1);
        Check.faulty("members 2;rank 1 10 !", 17, 2);
        Check.faulty("members 2;ask 2;!", 15, 4);
        Check.faulty("members 2;ask 2 !;", 16, 1);
        Check.faulty("members 2;ask 2;settle 0;", 15, 4);
        Check.faulty("members 2;settle 0;ask 2;", 17, 2);
        Check.faulty(twenty + "rank !", 190, 3);
        Check.faulty("members 2;rank 2 3;" + "rank 1 3;".repeat(20), 15, 2);
        Check.faulty("members 2;rank 1 3!" + "rank 1 3;".repeat(20), 18, 1);
        Check.faulty("members 2;ask 2;ask 3;", 15, 4);
        Check.faulty("members 2;ask 1;ask 2;ask 1;", 21, 4);
        // What stands behind a LINE without its ; is not looked at.
        for (String rest : new String[] {"ask 1;", "ask 2;", "ask 1;!", "settle 0;", "rank 2 1;", "1;ask 2;", "rank 1 10;"}) {
            Check.faulty("members 2 " + rest, 10, 1);
            Check.faulty("members 2;rank 1 1 " + rest, 19, 1);
            Check.faulty("members 2;ask 0 " + rest, 16, 1);
            Check.faulty("members 2;ask 1;send 1 0 " + rest, 25, 1);
        }
        // Of one TOKEN: three digits are no NUMBER that is not as told.
        Check.faulty("members 777;", 8, 1);
        Check.faulty("members 2;rank 100 3;", 15, 1);
        Check.faulty("members 2;rank 1 100;", 17, 1);
    }

    private static void upTo600Bytes() {
        String head = "members 2;ask 1;";
        for (int length = 598; length <= 640; length++) {
            String text = head + blanks(length - head.length());
            String late = blanks(length - head.length()) + head;
            String split = "members 2;" + blanks(length - head.length()) + "ask 1;";
            if (length <= LONGEST) {
                Check.good(text, 1);
                Check.good(late, 1);
                Check.good(split, 1);
            } else {
                Check.faulty(text, LONGEST, 1);
                Check.faulty(late, LONGEST, 1);
                Check.faulty(split, LONGEST, 1);
            }
        }
        // The end is told by how many bytes there are, up to 600.
        for (int length = 598; length <= 640; length++) {
            Check.faulty("members 2" + blanks(length - 9), Math.min(length, LONGEST), 1);
            Check.faulty(blanks(length), Math.min(length, LONGEST), 1);
        }
    }

    /** A TOKEN that begins ahead of 600 is read whole; one that begins there is not read. */
    private static void tokensAcrossTheEnd() {
        for (int start = 585; start <= 599; start++) {
            Check.faulty(blanks(start) + "members 2;" + blanks(20), LONGEST, 1);
            Check.faulty(blanks(start) + "memberz 2;" + blanks(20), start, 1);
            Check.faulty(blanks(start) + "members2;" + blanks(20), start, 1);
        }
        Check.faulty(blanks(600) + "memberz 2;", 600, 1);
        Check.faulty(blanks(600) + "!", 600, 1);
        for (int start = 601; start < 630; start++) {
            Check.faulty(blanks(start) + "!", 600, 1);
            Check.faulty("members 2;" + blanks(start - 10) + "settle 0;", 600, 1);
            Check.faulty("members 2;ask 2" + blanks(start - 15) + ";", 600, 1);
        }
        Check.faulty(blanks(599) + "!", 599, 1);
        Check.faulty(blanks(599) + "! ", 599, 1);
        String upTo599 = "members 2;rank 1" + blanks(583);
        Check.faulty(upTo599 + "9", 600, 1);
        Check.faulty(upTo599 + "9;", 600, 1);
        Check.faulty(upTo599 + "09;", 600, 1);
        Check.faulty(upTo599 + "10;", 599, 2);
        Check.faulty(upTo599 + "99", 599, 2);
        Check.faulty(upTo599 + "100", 599, 1);
        Check.faulty(upTo599 + "9a", 599, 1);
        Check.faulty(upTo599 + "1".repeat(41), 599, 1);
        Check.faulty(upTo599 + " 10;", 600, 1);
        Check.faulty(upTo599 + " 9;", 600, 1);
    }

    private static void faultsBeside600() {
        // Kind 4 at a ; that stands at 599, and none at 600.
        String ask = "members 2;ask 2";
        Check.faulty(ask + blanks(599 - ask.length()) + ";", 599, 4);
        Check.faulty(ask + blanks(599 - ask.length()) + ";" + blanks(40), 599, 4);
        Check.faulty(ask + blanks(600 - ask.length()) + ";", 600, 1);
        ask = "members 2;ask 1";
        Check.good(ask + blanks(599 - ask.length()) + ";", 1);
        Check.faulty(ask + blanks(599 - ask.length()) + "; ", 600, 1);
        Check.faulty(ask + blanks(599 - ask.length()) + ";;", 600, 1);
        Check.faulty(ask + blanks(600 - ask.length()) + ";", 600, 1);
        // Kind 3 at a WORD that begins at 599, and none at 600.
        String ranks = "members 2;" + "rank 1 3;".repeat(20);
        Check.faulty(ranks + blanks(599 - ranks.length()) + "rank 1 3;", 599, 3);
        Check.faulty(ranks + blanks(600 - ranks.length()) + "rank 1 3;", 600, 1);
        // Kind 2 at a NUMBER that begins at 599, and none at 600.
        String settle = "members 2;settle";
        Check.faulty(settle + blanks(599 - settle.length()) + "0", 599, 2);
        Check.faulty(settle + blanks(599 - settle.length()) + "00;", 599, 2);
        Check.faulty(settle + blanks(600 - settle.length()) + "0;", 600, 1);
    }

    private static void emptyTapes() {
        TravelToken x = new TravelToken();
        Check.due("P4 an empty tape", x.text(), -1);
        Check.due("P5 its kind", x.fault(), 1);
        Check.due("P4 a good one", Check.read(x, "members 3;"), 0);
        Check.due("P4 the tape is empty again", x.text(), -1);
        Check.due("P5 its kind", x.fault(), 1);
        Check.due("P4 all stays", x.now(0), 3);
        Check.due("P4 one with a fault", Check.read(x, "members 9;"), -9);
        Check.due("P4 the tape is empty even then", x.text(), -1);
        Check.feed(x, "members 4;");
        x.end(0);
        Check.due("P3 nothing is left", x.text(), -1);
        Check.due("P4 all stays", x.now(0), 3);
    }

    private static void theKindStaysUntilTheNextText() {
        TravelToken x = new TravelToken();
        Check.due("P5 ahead of any", x.fault(), 0);
        String[] texts = {"members", "members 1;", "members 2;" + "rank 0 0;".repeat(21), "members 2;ask 2;"};
        for (int kind = 1; kind <= 4; kind++) {
            Check.read(x, texts[kind - 1]);
            Check.due("P5 kind", x.fault(), kind);
            x.feed(0, 0, 0, 0, 0);
            x.end(0);
            x.ask(1);
            x.undo();
            Check.due("P5 the kind stays", x.fault(), kind);
        }
        Check.read(x, "members 2;");
        Check.due("P5 0 without one", x.fault(), 0);
    }
}
