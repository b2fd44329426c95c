/** The edges of what is told: of now(), member(), pass(), way(), message(), and whom they are asked of. */
public final class TellingEdgesTest {
    private static final int[] FAR = {Integer.MIN_VALUE, Integer.MIN_VALUE + 1, -1000, 1000, Integer.MAX_VALUE - 7,
        Integer.MAX_VALUE};

    public static void main(String[] args) {
        nowOfEachWhat();
        memberOfEachWhat();
        memberOfEachMember();
        passOfEachWhat();
        passOfThoseThatHaveNone();
        passOfAFullQueue();
        wayOfAllPairs();
        messageOfEachPlace();
        messageOfEachWhat();
        aNewObjectAndANewTextAreAlike();
        Check.close();
    }

    private static TravelToken with(int members) {
        return Check.of("members " + members + ";");
    }

    private static void nowOfEachWhat() {
        for (int n = 2; n <= 6; n++) {
            TravelToken x = with(n);
            int[] due = {n, 0, 1, 1, 0, 0, 0, 0, 0, 0, 1, 0, 0};
            for (int what = -30; what <= 60; what++) {
                int want = what >= 0 && what <= 12 ? due[what] : -1;
                Check.due("P6 of " + n + ", now(" + what + ")", x.now(what), want);
            }
            for (int what : FAR) {
                Check.due("P6 now(" + what + ")", x.now(what), -1);
            }
        }
        // Bits of the first and of the last MEMBER.
        TravelToken y = Check.of("members 6;ask 0;ask 5;ask 1;");
        Check.due("P6 5 and 1 ask", y.now(8), 34);
        Check.due("P6 0 is in", y.now(9), 1);
        y.send(5, 0);
        y.leave(0);
        y.send(0, 5);
        Check.due("P6 1 asks", y.now(8), 2);
        Check.due("P6 5 is in", y.now(9), 32);
        Check.due("P6 5 has the pass", y.now(10), 32);
    }

    private static boolean isTold(int n, int what) {
        return what >= 0 && what <= 8 || what >= 10 && what < 10 + n || what >= 20 && what < 20 + n
                || what >= 30 && what < 30 + n;
    }

    private static int memberAtFirst(int m, int what) {
        if (what == 0) {
            return 9 - m;
        }
        if (what >= 20 && what < 30) {
            return 9 - (what - 20);
        }
        return what == 3 || what == 6 && m == 0 ? 1 : 0;
    }

    private static void memberOfEachWhat() {
        for (int n = 2; n <= 6; n++) {
            StringBuilder text = new StringBuilder("members " + n + ";");
            for (int m = 0; m < n; m++) {
                text.append("rank ").append(m).append(' ').append(9 - m).append(';');
            }
            for (int m = 0; m < n; m++) {
                TravelToken x = Check.of(text.toString());
                for (int what = -40; what <= 70; what++) {
                    int want = isTold(n, what) ? memberAtFirst(m, what) : Check.THROWN;
                    Check.due("P7 of " + n + ", member(" + m + ", " + what + ")", Check.member(x, m, what), want);
                }
                for (int what : FAR) {
                    Check.due("P7 member(" + m + ", " + what + ")", Check.member(x, m, what), Check.THROWN);
                }
            }
        }
    }

    private static void memberOfEachMember() {
        for (int n = 2; n <= 6; n++) {
            TravelToken x = with(n);
            for (int m = -10; m <= 40; m++) {
                int want = m >= 0 && m < n ? 1 : Check.THROWN;
                Check.due("P7 of " + n + ", member(" + m + ", 3)", Check.member(x, m, 3), want);
                Check.due("P8 of " + n + ", pass(" + m + ", 0)", x.pass(m, 0), m == 0 ? 0 : -1);
                Check.due("P12 of " + n + ", soon(" + m + ")", x.soon(m), m >= 0 && m < n ? -2 : -1);
            }
            for (int m : FAR) {
                Check.due("P7 member(" + m + ", 3)", Check.member(x, m, 3), Check.THROWN);
                Check.due("P8 pass(" + m + ", 0)", x.pass(m, 0), -1);
                Check.due("P12 soon(" + m + ")", x.soon(m), -1);
            }
        }
    }

    /** The PASS is at 1, the QUEUE is 2 and those behind it: each length that there can be. */
    private static void passOfEachWhat() {
        for (int n = 2; n <= 6; n++) {
            for (int length = 0; length <= n - 2; length++) {
                StringBuilder text = new StringBuilder("members " + n + ";ask 0;");
                for (int m = 1; m <= length + 1; m++) {
                    text.append("ask ").append(m).append(";send ").append(m).append(" 0;");
                }
                TravelToken x = Check.of(text + "leave 0;send 0 1;");
                for (int what = -40; what <= 70; what++) {
                    Check.due("P8 of " + n + ", " + length + " wait, pass(1, " + what + ")", x.pass(1, what),
                            passWithQueue(n, length, what));
                }
                for (int what : FAR) {
                    Check.due("P8 pass(1, " + what + ")", x.pass(1, what), -1);
                }
            }
        }
    }

    private static int passWithQueue(int n, int length, int what) {
        if (what == 0) {
            return length;
        }
        if (what >= 10 && what < 10 + n) {
            return what == 10 ? 1 : 0;
        }
        if (what >= 20 && what < 20 + length) {
            return 2 + what - 20;
        }
        return what >= 30 && what < 30 + length ? 1 : -1;
    }

    private static void passOfThoseThatHaveNone() {
        TravelToken x = Check.of("members 3;ask 0;ask 1;ask 2;send 1 0;send 2 0;leave 0;");
        for (int m = 0; m < 3; m++) {
            for (int what = -1; what <= 40; what++) {
                Check.due("P8 it is on its way, pass(" + m + ", " + what + ")", x.pass(m, what), -1);
            }
        }
        x.send(0, 1);
        Check.due("P8 1 has it", x.pass(1, 0), 1);
        Check.due("P8 0 has it not", x.pass(0, 10), -1);
        Check.due("P8 2 has it not", x.pass(2, 20), -1);
    }

    /** All five others come to the QUEUE; ranks decide who is taken, the others keep their order. */
    private static void passOfAFullQueue() {
        TravelToken x = Check.of("members 6;rank 3 1;ask 0;ask 5;ask 4;ask 3;ask 2;ask 1;"
                + "send 5 0;send 4 0;send 3 0;send 2 0;send 1 0;leave 0;");
        Check.due("P10 four wait", x.message(0, 3, 0, 2), 4);
        x.send(0, 3);
        int[] queue = {1, 2, 4, 5};
        for (int k = 0; k < 4; k++) {
            Check.due("P8 in the queue", x.pass(3, 20 + k), queue[k]);
            Check.due("P8 waits", x.pass(3, 30 + k), 1);
        }
        Check.due("P8 no fifth", x.pass(3, 24), -1);
        Check.due("P8 no fifth", x.pass(3, 34), -1);
        // 0 asks again: it comes to the end, and the queue is full once more.
        x.ask(0);
        x.send(0, 3);
        Check.due("P15 the first of like ones", x.leave(3), 1);
        x.send(3, 1);
        x.send(3, 1);
        Check.due("P8 four again", x.pass(1, 0), 4);
        int[] next = {2, 4, 5, 0};
        int[] waits = {2, 2, 2, 1};
        for (int k = 0; k < 4; k++) {
            Check.due("P8 in the queue", x.pass(1, 20 + k), next[k]);
            Check.due("P8 waits", x.pass(1, 30 + k), waits[k]);
        }
    }

    private static void wayOfAllPairs() {
        for (int n = 2; n <= 6; n++) {
            TravelToken x = Check.of("members " + n + ";ask 1;suspect 1;");
            for (int from = -2; from <= 9; from++) {
                for (int to = -2; to <= 9; to++) {
                    boolean such = from >= 0 && from < n && to >= 0 && to < n && from != to;
                    int due = such ? from == 1 ? 2 : 0 : -1;
                    Check.due("P9 of " + n + ", way(" + from + ", " + to + ")", x.way(from, to), due);
                }
            }
            for (int no : FAR) {
                Check.due("P9 way(" + no + ", 0)", x.way(no, 0), -1);
                Check.due("P9 way(1, " + no + ")", x.way(1, no), -1);
            }
        }
        TravelToken full = Check.of("members 2;ask 1;" + "suspect 1;".repeat(39));
        Check.due("P9 a full way", full.way(1, 0), 40);
        Check.due("P10 its last message", full.message(1, 0, 39, 1), 40);
        Check.due("P10 none behind it", full.message(1, 0, 40, 1), -1);
    }

    private static void messageOfEachPlace() {
        for (int n = 2; n <= 6; n++) {
            TravelToken x = Check.of("members " + n + ";ask 1;suspect 1;suspect 1;");
            int[] value = {1, 2, 3};
            for (int k = -8; k <= 8; k++) {
                Check.due("P10 the k-th, " + k, x.message(1, 0, k, 1), k >= 0 && k < 3 ? value[k] : -1);
                Check.due("P10 an empty way, " + k, x.message(0, 1, k, 1), -1);
            }
            for (int from = -2; from <= 8; from++) {
                for (int to = -2; to <= 8; to++) {
                    int due = from == 1 && to >= 0 && to < n && to != 1 ? 3 : -1;
                    Check.due("P10 message(" + from + ", " + to + ")", x.message(from, to, 2, 1), due);
                }
            }
            for (int no : FAR) {
                Check.due("P10 from " + no, x.message(no, 0, 0, 0), -1);
                Check.due("P10 to " + no, x.message(1, no, 0, 0), -1);
                Check.due("P10 k " + no, x.message(1, 0, no, 0), -1);
            }
        }
    }

    private static void messageOfEachWhat() {
        TravelToken x = Check.of("members 2;rank 1 9;ask 1;suspect 1;");
        for (int what = -20; what <= 40; what++) {
            Check.due("P10 request, what " + what, x.message(1, 0, 0, what),
                    what == 0 ? 0 : what == 1 ? 1 : what == 2 ? 9 : -1);
            Check.due("P10 doubt, what " + what, x.message(1, 0, 1, what),
                    what == 0 ? 2 : what == 1 ? 2 : what == 2 ? 0 : -1);
            Check.due("P10 no message, what " + what, x.message(1, 0, 2, what), -1);
        }
        for (int what : FAR) {
            Check.due("P10 what " + what, x.message(1, 0, 0, what), -1);
        }
    }

    private static void aNewObjectAndANewTextAreAlike() {
        Check.same("P1 two members", Check.state(new TravelToken()), Check.state(with(2)));
    }
}
