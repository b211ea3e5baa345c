/** Term 2 and promises 10 to 17, 28, 32 and 37 at their edges: too small, too large, empty, full, wrapped round. */
public final class EdgeStateTest {
    private static final int NONE = RingVillage.NONE;
    private static final int NO_SUCH = -2;
    private static final int NO_STATE = -100000;
    private static final int YES = 1;
    private static final int NO = 0;
    private static final String[] NO_STATES = {
        "-1|-2|2|MIN|MAX 0 0", "-1|2|MIN|MAX NONE 0",
        "0 -2|3|MIN|MAX 0",
        "0 0 -1|3|4|30|31|MIN|MAX", "0 1 -1|1|MIN|MAX", "0 2 -1|1|MAX", "0 NONE -1|1|30|MIN|MAX"};
    private static final Telling T = new Telling("EdgeStateTest");

    public static void main(String[] args) {
        term2States();
        term2Owe();
        term2Pay();
        term2Ring();
        term2Strike();
        term2Fail();
        term2Month();
        promise10Stop();
        promise11Hour();
        promise12Owes();
        promise13Room();
        promise14Over();
        promise15Lawful();
        promise16StateEmpty();
        promise16StateFull();
        promise16Sums();
        promise16Parted();
        promise16Groups();
        promise16Worst();
        promise17Ring();
        promise28Falls();
        promise32MonthsHowMany();
        promise32MonthsBySeed();
        promise32MonthsByNumbers();
        promise32MonthsPass();
        promise32MonthsLawful();
        promise37Roll();
        T.close();
    }

    /** Two villages and three rows: one that stops behind two of four acts, an empty one, one that stops at once. */
    private static RingVillage some() {
        RingVillage x = new RingVillage();
        Telling.tell(x, 0, NONE, "all 5;want 0 1 1 1;want 2 3 6 1;");
        Telling.tell(x, 0, NONE, "people 2;");
        Telling.tell(x, 1, NONE, "owe 0 1 4;ring 1 9 0 1 2;owe 0 1 1;month;");
        Telling.tell(x, 1, NONE, "");
        Telling.tell(x, 1, NONE, "fail 4;month;");
        return x;
    }

    private static void refuses(long answer, String name, String behind) {
        for (String state : NO_STATES) {
            T.asks(some(), answer, (name + " " + state + " " + behind).trim());
        }
    }

    /** For every call that asks for a STATE. */
    private static void term2States() {
        refuses(NONE, "owes", "0 1");
        refuses(NONE, "room", "0 1");
        refuses(NO_STATE, "over", "0");
        refuses(NO, "lawful", "");
        refuses(NO_SUCH, "state", "0");
        refuses(NONE, "ring", "0 0");
        refuses(NONE, "find", "0 0 0");
        refuses(NONE, "stands", "0 0 true");
        refuses(NONE, "bars", "1");
        refuses(NONE, "much", "0");
        refuses(NO, "had", "0 true");
        refuses(NONE, "most", "true true");
        refuses(NONE, "shilling", "");
        refuses(NONE, "worth", "0");
        refuses(NONE, "need", "0");
        refuses(NONE, "falls", "0 true");
        refuses(NONE, "rest", "0 0");
        refuses(NONE, "early", "0 1 1");
        refuses(NONE, "stranger", "0 2 0");
        refuses(NO_SUCH, "months", "0 0 0");
        refuses(NONE, "one", "0 0");
        refuses(NO_STATE, "gap", "");
        refuses(NONE, "tight", "0 1");
        refuses(NONE, "opens", "false");
        refuses(NONE, "roll", "0");
        refuses(NONE, "lent", "0 1");
        refuses(NONE, "weak", "true");
        refuses(NONE, "take", "2 1 1");
        RingVillage x = some();
        String states = "0 0 0|1|2";
        T.asks(x, 0, "state " + states + " 0", "state 0 1|2|NONE 0 0", "state 1 0|1|2|NONE 0 0", "owes " + states + " 1 0");
        T.asks(x, YES, "had " + states + " 0 false", "lawful 0 0 0", "lawful 0 1|2|NONE 0", "take 0 0 0|1 2 1 1", "take 0 2|NONE 0 2 1 1");
        T.asks(x, 5, "owes 0 0 2 0 1", "room 0 NONE 0 0 1", "room 0 1|2 0 0 1");
    }

    private static void stops(String village, String row, int stop) {
        RingVillage x = Telling.with(village, row);
        String about = "<" + village + "> <" + row + "> ";
        T.due(about + "stop", x.stop(0, 0), stop);
        T.due(about + "a state up to it", x.state(0, 0, stop, 0) >= 0, true);
        T.due(about + "none behind it", x.state(0, 0, stop + 1, 0), NO_SUCH);
    }

    private static void term2Owe() {
        stops("word 1 0 5;", "owe 0 1 5;", 1);
        stops("word 1 0 5;", "owe 0 1 6;", 0);
        stops("word 1 0 5;", "owe 0 1 4;owe 0 1 1;owe 0 1 1;", 2);
        stops("word 1 0 5;", "owe 1 0 1;", 0);
        stops("word 1 0 99;", "owe 0 1 99;owe 0 1 1;", 1);
        stops("word 1 0 98;", "owe 0 1 99;", 0);
        stops("", "owe 0 1 1;", 0);
        stops("word 3 0 1;", "owe 0 3 1;", 1);
        stops("all 9;", "owe 0 4 1;", 0);
        stops("all 9;", "owe 4 0 1;", 0);
        stops("people 5;all 9;", "owe 0 4 9;owe 4 0 9;", 2);
        stops("people 2;all 9;", "owe 0 2 1;", 0);
        stops("people 9;all 9;", "owe 8 7 9;", 1);
        stops("people 8;all 9;", "owe 8 7 9;", 0);
    }

    private static void term2Pay() {
        stops("all 5;", "pay 0 1 1;", 0);
        stops("all 5;", "owe 0 1 5;pay 0 1 5;", 2);
        stops("all 5;", "owe 0 1 5;pay 0 1 6;", 1);
        stops("all 5;", "owe 0 1 5;pay 0 1 4;pay 0 1 1;pay 0 1 1;", 3);
        stops("all 5;", "owe 0 1 5;pay 0 1 5;owe 0 1 5;owe 0 1 1;", 3);
        stops("all 5;", "owe 0 1 5;pay 1 0 1;", 1);
        stops("all 99;", "owe 0 1 99;pay 0 1 99;", 2);
        stops("all 5;", "pay 4 0 1;", 0);
        stops("all 5;", "pay 0 4 1;", 0);
        stops("all 5;", "ring 5 9 0 1;pay 0 1 5;pay 1 0 5;", 3);
    }

    private static void term2Ring() {
        stops("people 2;all 5;", "ring 5 0 0 1;ring 1 0 0 1;", 1);
        stops("people 2;all 5;", "ring 6 0 0 1;", 0);
        stops("people 2;all 99;", "ring 99 0 1 0;", 1);
        stops("people 2;all 99;word 0 1 98;", "ring 99 0 1 0;", 0);
        stops("people 2;all 99;word 0 1 98;", "ring 99 0 0 1;", 0);
        stops("people 6;all 5;", "ring 5 0 0 1 2 3 4 5;", 1);
        for (int p = 0; p < 6; p++) {
            int next = (p + 1) % 6;
            stops("people 6;all 5;word " + next + " " + p + " 4;", "ring 5 0 0 1 2 3 4 5;", 0);
            stops("people 6;all 5;word " + p + " " + next + " 4;", "ring 5 0 0 1 2 3 4 5;", 1);
            stops("people 6;all 5;", "owe " + p + " " + next + " 1;ring 5 0 0 1 2 3 4 5;", 1);
            stops("people 6;all 5;", "owe " + p + " " + next + " 1;ring 4 0 0 1 2 3 4 5;", 2);
        }
        stops("people 5;all 5;", "ring 1 0 0 1 2 3 4 5;", 0);
        stops("people 5;all 5;", "ring 1 0 5 1 2 3 4 0;", 0);
        stops("people 2;all 5;", "ring 1 0 0 1 2;", 0);
        stops("people 9;all 5;", "ring 5 0 8 7 6 5 4 3;ring 5 0 3 4 5 6 7 8;", 2);
        RingVillage x = Telling.with("people 2;all 5;", "month;month;ring 2 1 0 1;month;");
        T.asks(x, 1, "state 0 0 3 2");
        T.asks(x, 2, "owes 0 0 3 0 1");
        T.asks(x, 0, "state 0 0 4 2", "owes 0 0 4 0 1");
    }

    private static void term2Strike() {
        stops("all 5;", "strike 0;", 0);
        stops("all 5;", "strike 29;", 0);
        stops("all 5;", "ring 1 0 0 1;strike 1;", 1);
        stops("all 5;", "ring 1 0 0 1;strike 29;", 1);
        stops("all 5;", "ring 1 0 0 1;strike 0;strike 0;", 2);
        stops("all 5;", "ring 1 0 0 1;ring 1 0 0 1;strike 1;strike 0;strike 1;", 4);
        stops("all 5;", "ring 1 0 0 1;month;strike 0;", 2);
        stops("all 5;", "ring 1 1 0 1;month;strike 0;", 3);
        stops("all 5;", "ring 1 9 0 1;fail 1;strike 0;", 2);
        stops("all 5;", "ring 1 9 0 1;fail 2;strike 0;", 3);
        stops("all 5;", "ring 5 0 0 1;strike 0;ring 5 0 0 1;strike 0;", 3);
        stops("all 5;", "ring 5 0 0 1;strike 0;ring 5 0 0 1;strike 1;", 4);
        stops("people 2;all 99;", "ring 1 9 0 1;".repeat(29) + "strike 28;", 30);
        stops("people 2;all 99;", "ring 1 9 0 1;".repeat(29) + "strike 29;", 29);
        // Rings of another row that was asked before are none of this one's.
        RingVillage y = Telling.with("all 9;", "ring 1 9 0 1;ring 1 9 0 1;");
        Telling.tell(y, 1, NONE, "strike 0;");
        Telling.tell(y, 1, NONE, "ring 1 9 2 3;strike 1;");
        for (int row = 1; row < 3; row++) {
            T.asks(y, 3, "state 0 0 2 2");
            T.asks(y, row - 1, "stop 0 " + row);
        }
        RingVillage x = Telling.with("all 9;", "ring 5 9 0 1 2;pay 0 1 5;pay 1 2 4;owe 2 0 1;strike 0;");
        T.asks(x, 0, "owes 0 0 5 0 1", "owes 0 0 5 1 2", "state 0 0 5 2");
        T.asks(x, 1, "owes 0 0 5 2 0", "state 0 0 5 1");
    }

    private static void term2Fail() {
        stops("all 5;", "fail 3;", 1);
        stops("all 5;", "fail 4;", 0);
        stops("people 2;", "fail 1;fail 0;fail 1;fail 2;", 3);
        stops("people 9;", "fail 8;", 1);
        stops("people 8;", "fail 8;", 0);
        stops("all 5;", "owe 0 1 5;fail 1;owe 0 1 5;", 3);
        // Rings are struck by numbers before his own debts go: 0 to 1 owes 3 of 5, which the first ring takes off.
        RingVillage x = Telling.with("all 9;", "ring 3 9 0 1 2;ring 2 9 0 1 3;pay 0 1 2;fail 2;");
        T.asks(x, 0, "owes 0 0 4 0 1", "owes 0 0 4 1 2", "owes 0 0 4 2 0");
        T.asks(x, 2, "owes 0 0 4 1 3", "owes 0 0 4 3 0", "state 0 0 4 2");
        T.asks(x, 3, "owes 0 0 3 0 1", "state 0 0 3 2");
        RingVillage y = Telling.with("people 9;all 9;", "ring 1 9 8 0;ring 1 9 0 1;owe 8 7 9;owe 7 8 9;fail 8;");
        T.asks(y, 2, "state 0 0 5 2|3");
        T.asks(y, 0, "owes 0 0 5 8 0|7", "owes 0 0 5 0|7 8");
    }

    private static void term2Month() {
        stops("people 2;", "month;".repeat(30), 30);
        RingVillage x = Telling.with("people 2;all 9;", "ring 1 0 0 1;ring 2 1 0 1;ring 4 99 0 1;strike 1;month;month;");
        T.asks(x, 7, "state 0 0 3 2", "owes 0 0 3 0 1");
        T.asks(x, 5, "state 0 0 4 2", "owes 0 0 4 0 1");
        T.asks(x, 4, "state 0 0 5|6 2", "owes 0 0 5|6 0 1");
        T.asks(x, 0, "state 0 0 4 0");
        T.asks(x, 1, "state 0 0 5 0");
        T.asks(x, 2, "state 0 0 6 0");
        RingVillage y = Telling.with("people 2;all 9;", "ring 1 28 0 1;" + "month;".repeat(29));
        T.asks(y, 1, "state 0 0 29 2");
        T.asks(y, 0, "state 0 0 30 2");
        T.asks(y, 29, "state 0 0 30 0");
    }

    private static void promise10Stop() {
        RingVillage x = some();
        T.asks(x, 2, "stop 0 0");
        T.asks(x, 0, "stop 0 1|2", "stop 1 0|1|2");
        T.asks(x, NONE, "stop -1|2|-2|MIN|MAX 0", "stop 0 -1|-2|3|MIN|MAX", "stop 2 3");
        T.asks(Telling.with("people 2;all 99;", "owe 0 1 1;".repeat(30)), 30, "stop 0 0");
        T.asks(Telling.with("people 2;all 29;", "owe 0 1 1;".repeat(30)), 29, "stop 0 0");
    }

    private static void promise11Hour() {
        RingVillage x = some();
        T.asks(x, 0, "hour 0 0");
        T.asks(x, NONE, "hour 0 1|2", "hour 1 0|1|2", "hour -1|2|MIN|MAX 0", "hour 0 -1|-2|3|MIN|MAX");
        RingVillage y = new RingVillage();
        Telling.tell(y, 0, NONE, "all 9;slack 1;");
        Telling.tell(y, 0, NONE, "all 9;");
        Telling.tell(y, 1, NONE, "month;owe 0 1 1;owe 0 1 1;");
        Telling.tell(y, 1, NONE, "owe 0 1 2;");
        T.asks(y, 2, "hour 0 0");
        T.asks(y, 1, "hour 1 0");
        T.asks(y, 0, "hour 0|1 1");
        T.asks(Telling.with("all 9;", "owe 0 1 1;owe 1 0 1;"), 0, "hour 0 0");
        T.asks(Telling.with("all 9;", "ring 1 0 0 1;month;fail 1;"), NONE, "hour 0 0");
        T.asks(Telling.with("all 9;", "owe 0 1 10;"), NONE, "hour 0 0");
        T.asks(Telling.with("all 99;slack 9;", "owe 0 1 9;owe 1 0 9;owe 1 0 9;owe 0 1 18;"), NONE, "hour 0 0");
        T.asks(Telling.with("all 99;slack 9;", "owe 0 1 9;owe 0 1 1;"), 1, "hour 0 0");
        T.asks(Telling.with("all 99;slack 9;", "owe 0 1 9;owe 1 0 19;"), 1, "hour 0 0");
        T.asks(Telling.with("all 99;slack 5;", "owe 0 2 5;owe 1 2 1;"), 1, "hour 0 0");
        T.asks(Telling.with("all 99;slack 5;", "owe 2 0 5;owe 2 1 1;"), 1, "hour 0 0");
        T.asks(Telling.with("all 99;slack 5;", "owe 0 1 5;owe 0 2 1;"), 1, "hour 0 0");
        T.asks(Telling.with("people 9;all 99;slack 5;", "owe 8 1 5;owe 8 2 1;"), 1, "hour 0 0");
        T.asks(Telling.with("people 9;all 99;", "month;".repeat(29) + "owe 8 7 1;"), 29, "hour 0 0");
        T.asks(Telling.with("people 9;all 99;", "month;".repeat(29) + "owe 8 7 1;"), 30, "stop 0 0");
    }

    private static void promise12Owes() {
        RingVillage x = Telling.with("people 9;all 99;", "owe 8 0 99;");
        T.asks(x, 99, "owes 0 0 1 8 0");
        T.asks(x, 0, "owes 0 0 0 8 0", "owes 0 NONE 0 8 0", "owes 0 0 1 0 8", "owes 0 0 1 0|8 8", "owes 0 0 1 0 0");
        T.asks(x, NONE, "owes 0 0 1 9|-1|-2|MIN|MAX 0|9", "owes 0 0 1 0 9|-1|-2|MIN|MAX", "owes 0 NONE 0 9 9");
        RingVillage y = Telling.with("people 2;", "");
        T.asks(y, 0, "owes 0 0 0 0|1 0|1");
        T.asks(y, NONE, "owes 0 0 0 2 0|2", "owes 0 0 0 0 2");
    }

    private static void promise13Room() {
        RingVillage x = Telling.with("people 9;all 99;word 8 0 1;", "owe 8 0 98;owe 8 0 1;owe 0 8 1;");
        T.asks(x, 99, "room 0 NONE 0 8 0", "room 0 0 0 8 0");
        T.asks(x, 1, "room 0 NONE 0 0 8", "room 0 0 1 8 0");
        T.asks(x, 0, "room 0 0 2|3 8 0", "room 0 0 3 0 8", "room 0 0 3 0 0", "room 0 0 3 8 8", "room 0 NONE 0 4 4");
        T.asks(x, NONE, "room 0 0 1 9|-1|MIN|MAX 0|9", "room 0 0 1 0 9|-1|MIN|MAX");
        T.asks(Telling.with("people 2;", ""), 0, "room 0 0 0 0|1 0|1");
    }

    private static void promise14Over() {
        StringBuilder owe = new StringBuilder();
        StringBuilder owed = new StringBuilder();
        for (int p = 1; p < 9; p++) {
            owe.append("owe 0 ").append(p).append(" 99;");
            owed.append("owe ").append(p).append(" 0 99;");
        }
        RingVillage x = Telling.with("people 9;all 99;", owe.toString());
        T.asks(x, 792, "over 0 0 8 0");
        T.asks(x, -99, "over 0 0 8 1|8");
        T.asks(x, 0, "over 0 0 0 0|8", "over 0 NONE 0 0|8", "over 0 0 7 8");
        T.asks(x, NO_STATE, "over 0 0 8 9|-1|-2|MIN|MAX");
        RingVillage y = Telling.with("people 9;all 99;", owed.toString());
        T.asks(y, -792, "over 0 0 8 0");
        T.asks(y, 99, "over 0 0 8 1|8");
        T.asks(Telling.with("people 2;", ""), NO_STATE, "over 0 0 0 2");
    }

    private static void promise15Lawful() {
        RingVillage x = Telling.with("people 9;all 99;slack 9;", "owe 8 0 9;owe 8 0 1;pay 8 0 1;");
        T.asks(x, YES, "lawful 0 0 0|1|3", "lawful 0 NONE 0");
        T.asks(x, NO, "lawful 0 0 2");
        RingVillage y = Telling.with("people 2;all 99;", "owe 0 1 1;");
        T.asks(y, YES, "lawful 0 0 0");
        T.asks(y, NO, "lawful 0 0 1");
    }

    private static void promise16StateEmpty() {
        for (int people = 2; people <= 9; people++) {
            RingVillage x = Telling.with("people " + people + ";all 99;", "");
            T.asks(x, 0, "state 0 0|NONE 0 0|1|2|3|5|6|7|9|10");
            T.asks(x, people * (people - 1) * 99, "state 0 0|NONE 0 4");
            T.asks(x, (1 << people) - 1, "state 0 0|NONE 0 8");
            T.asks(x, NO_SUCH, "state 0 0|NONE 0 -1|-2|11|12|MIN|MAX");
        }
        T.asks(Telling.with("people 9;", ""), 0, "state 0 0 0 4");
    }

    /** Thirty acts, each a ring of two others. */
    private static void promise16StateFull() {
        StringBuilder row = new StringBuilder();
        int many = 0;
        for (int a = 0; a < 9; a++) {
            for (int b = a + 1; b < 9 && many < 30; b++) {
                row.append("ring 1 99 ").append(a).append(' ').append(b).append(';');
                many++;
            }
        }
        RingVillage x = Telling.with("people 9;all 1;", row.toString());
        T.asks(x, 30, "state 0 0 30 1|6|7", "stop 0 0");
        T.asks(x, (1 << 30) - 1, "state 0 0 30 2");
        T.asks(x, 60, "state 0 0 30 3");
        T.asks(x, 12, "state 0 0 30 4");
        T.asks(x, 0, "state 0 0 30 5|8|10");
        T.asks(x, 1, "state 0 0 30 9");
        T.asks(x, NO_SUCH, "state 0 0 31 0|1|2", "state 0 0 30 11|-1");
    }

    private static void promise16Sums() {
        RingVillage x = Telling.with("people 2;all 99;", "owe 0 1 99;owe 1 0 98;owe 1 0 1;pay 0 1 99;");
        int[][] due = {{0, 198, 0, 0, 0, 3}, {99, 99, 99, NONE, 0, 0}, {197, 1, 1, NONE, 1, 0}, {198, 0, 0, 1, 1, 0}, {99, 99, 99, NONE, 0, 0}};
        for (int n = 0; n < due.length; n++) {
            for (int i = 0; i < 6; i++) {
                T.asks(x, due[n][i], "state 0 0 " + n + " " + (3 + i));
            }
        }
        RingVillage y = Telling.with("people 6;all 99;", "ring 99 0 0 1 2 3 4 5;ring 99 0 5 4 3 2 1 0;");
        T.asks(y, 594, "state 0 0 1 3|5");
        T.asks(y, 1188, "state 0 0 2 3");
        T.asks(y, 0, "state 0 0 2 5", "state 0 0 1 7");
        T.asks(y, 6, "state 0 0 2 7");
        T.asks(y, 30 * 99 - 1188, "state 0 0 2 4");
    }

    private static void promise16Parted() {
        RingVillage x = Telling.with("people 9;all 99;slack 9;", "owe 8 7 1;owe 7 8 1;owe 7 8 1;");
        T.asks(x, 0, "state 0 0 0 6");
        T.asks(x, NONE, "state 0 0 1|3 6");
        T.asks(x, 1, "state 0 0 2 6");
        // One ring of all nine, told by two rings that share 8 to 0.
        RingVillage y = Telling.with("people 9;all 99;", "ring 5 9 0 1 2 3 4;owe 4 5 5;owe 5 6 5;owe 6 7 5;owe 7 8 5;owe 8 0 5;pay 4 0 5;");
        T.asks(y, 1, "state 0 0 1|7 6");
        T.asks(y, NONE, "state 0 0 2|6 6");
    }

    private static void promise16Groups() {
        RingVillage x = Telling.with("people 9;all 9;", "owe 1 0 1;owe 2 3 1;owe 5 4 1;owe 6 7 1;owe 7 5 1;owe 0 6 1;owe 8 2 1;owe 3 1 1;");
        int[] groups = {0, 1, 2, 3, 4, 3, 2, 2, 1};
        int[] alone = {511, 508, 496, 448, 256, 256, 256, 0, 0};
        for (int n = 0; n < groups.length; n++) {
            T.asks(x, groups[n], "state 0 0 " + n + " 9");
            T.asks(x, alone[n], "state 0 0 " + n + " 8");
        }
    }

    private static void promise16Worst() {
        RingVillage x = Telling.with("people 9;all 9;", "owe 8 7 1;owe 7 6 1;ring 1 9 0 1 2;ring 1 9 0 3;");
        T.asks(x, 0, "state 0 0 0 10", "state 0 0 4 10");
        // Both 7 and 8 take 1 off: the least.
        T.asks(x, 7, "state 0 0 1|2 10");
        // 0, 1 and 2 take 3 off.
        T.asks(x, 0, "state 0 0 3 10");
        RingVillage y = Telling.with("people 9;all 9;", "owe 8 7 1;owe 8 6 1;");
        T.asks(y, 8, "state 0 0 2 10");
        // By his ring 0 takes 9 off, though he owes and is owed 6 only; once it is struck, he takes nothing off.
        RingVillage z = Telling.with("people 5;all 9;", "ring 3 9 0 1 2;owe 3 4 7;strike 0;");
        T.asks(z, 0, "state 0 0 1|2 10");
        T.asks(z, 3, "state 0 0 3 10");
        // The last ring counts as the first one does: 2 takes 99 off, 5 and 6 take 70, 0 and 1 take 56.
        RingVillage v = Telling.with("people 7;all 99;", "ring 1 9 0 1;".repeat(28) + "ring 33 9 2 3 4;owe 5 6 70;");
        T.asks(v, 2, "state 0 0 29|30 10");
        T.asks(v, 0, "state 0 0 28 10");
        // What was paid of a ring can't fall once more: 4, 5 and 6 take 7 off, 0 and 1 take 8.
        RingVillage w = Telling.with("people 7;all 9;", "ring 3 9 4 5 6;ring 2 9 4 5 6;pay 4 5 5;pay 5 6 3;owe 1 0 8;");
        T.asks(w, 4, "state 0 0 4 10");
        T.asks(w, 0, "state 0 0 5 10");
    }

    private static void promise17Ring() {
        RingVillage x = Telling.with("people 9;all 99;", "ring 99 0 8 7 6 5 4 3;ring 1 99 0 8;month;strike 1;");
        T.asks(x, 6, "ring 0 0 2 0 0");
        T.asks(x, 99, "ring 0 0 2 0 1", "ring 0 0 2 1 2");
        T.asks(x, 0, "ring 0 0 2 0 2", "ring 0 0 2 1 10", "ring 0 0 3 0 3", "ring 0 0 4 1 3");
        T.asks(x, 1, "ring 0 0 2 0|1 3", "ring 0 0 2 1 1", "ring 0 0 3 1 3");
        T.asks(x, 2, "ring 0 0 2|4 1 0");
        T.asks(x, 8, "ring 0 0 1|4 0 10", "ring 0 0 2|4 1 11");
        T.asks(x, 3, "ring 0 0 1|4 0 15");
        T.asks(x, NONE, "ring 0 0 2 0 16|17|4|9|-1|MIN|MAX", "ring 0 0 2 1 12|15|16", "ring 0 0 0 0 0", "ring 0 0 1 1 0", "ring 0 0 2 2|-1|29|MIN|MAX 0",
            "ring 0 NONE 0 0|-1 0");
        RingVillage y = Telling.with("people 2;all 99;", "ring 1 99 0 1;".repeat(30));
        T.asks(y, 1, "ring 0 0 30 29 1|3|11");
        T.asks(y, NONE, "ring 0 0 30 30|37|MAX 0", "ring 0 0 29 29 0");
    }

    private static void promise28Falls() {
        RingVillage x = Telling.with("people 9;all 99;", "ring 1 0 8 0;ring 1 9 8 7 6 5 4 3;strike 0;month;fail 3;");
        T.asks(x, 0, "falls 0 0 0 8 false|true", "falls 0 NONE 0 8 false|true", "falls 0 0 2 1 false|true", "falls 0 0 3 0 false|true",
            "falls 0 0 5 8 false|true");
        T.asks(x, 1, "falls 0 0 1 8 false|true", "falls 0 0 2 0 false");
        T.asks(x, 256, "falls 0 0 1 0 true");
        T.asks(x, 3, "falls 0 0 2 8 false");
        T.asks(x, 1 | 8 + 16 + 32 + 64 + 128, "falls 0 0 2 8 true");
        T.asks(x, 2, "falls 0 0 3|4 8 false");
        T.asks(x, 8 + 16 + 32 + 64 + 128, "falls 0 0 3|4 8 true");
        T.asks(x, NONE, "falls 0 0 2 9|-1|MIN|MAX false|true");
        RingVillage y = Telling.with("people 2;all 99;", "ring 1 99 0 1;".repeat(30));
        T.asks(y, (1 << 30) - 1, "falls 0 0 30 0|1 false");
        T.asks(y, 2, "falls 0 0 30 0 true");
        T.asks(y, NONE, "falls 0 0 30 2 false|true");
    }

    private static void promise32MonthsHowMany() {
        RingVillage x = Telling.with("people 2;all 9;", "ring 1 0 0 1;ring 2 23 0 1;ring 4 24 0 1;");
        T.asks(x, 7, "months 0 0 3 1 0 0");
        T.asks(x, 14, "months 0 0 3 1 0 1");
        T.asks(x, 0, "months 0 0 3 1 0|24 2", "months 0 NONE 0 1 0|24 0|1|2");
        T.asks(x, NONE, "months 0 0 3 1 0|24 3", "months 0 NONE 0 1 0|24 3");
        T.asks(x, 6, "months 0 0 3 1 1|23 0");
        T.asks(x, 12, "months 0 0 3 1 1|23 1");
        T.asks(x, 4, "months 0 0 3 1 24 0");
        T.asks(x, 8, "months 0 0 3 1 24 1");
        T.asks(x, NO_SUCH, "months 0 0 3 1 -1|25|MIN|MAX 0|1|2|3", "months 0 0 3 1 1 -1|4|10|MIN|MAX", "months 0 0 3 1 25 4");
    }

    private static int numberBelow(long x, int n) {
        return (int) ((x >>> 16) % n);
    }

    private static long next(long x) {
        return x * 1103515245L + 12345L & 0xffffffffL;
    }

    /** What is drawn, reckoned in 64 bits of which 32 are kept. */
    private static void promise32MonthsBySeed() {
        int[] seeds = {0, 1, -1, 2, 12345, 65535, 65536, -65536, 0x7fffffff, 0x80000000, 0x80000001, 0xdeadbeef, 1103515245, -12345};
        int[] risks = {0, 1, 50, 99, 0, 98, 2, 33, 99};
        for (int people = 2; people <= 9; people += 7) {
            StringBuilder village = new StringBuilder("people " + people + ";");
            for (int p = 0; p < people; p++) {
                village.append("risk ").append(p).append(' ').append(risks[p + 9 - people]).append(';');
            }
            for (int seed : seeds) {
                RingVillage x = Telling.with(village.toString(), "");
                int failed = 0;
                long drawn = seed & 0xffffffffL;
                for (int months = 0; months <= 24; months++) {
                    T.asks(x, failed, "months 0 NONE 0 " + seed + " " + months + " 2");
                    for (int p = 0; p < people; p++) {
                        drawn = next(drawn);
                        failed += numberBelow(drawn, 100) < risks[p + 9 - people] ? 1 : 0;
                    }
                }
            }
        }
    }

    /** Each draws, whose RISK is 0 too, by numbers; he fails whose own number is below. */
    private static void promise32MonthsByNumbers() {
        for (int seed = -40; seed < 40; seed++) {
            long drawn = seed & 0xffffffffL;
            for (int p = 0; p < 4; p++) {
                drawn = next(drawn);
                int number = numberBelow(drawn, 100);
                for (int risk = Math.max(0, number); risk <= number + 1 && risk < 100; risk++) {
                    boolean fails = number < risk;
                    RingVillage x = Telling.with("all 9;risk " + p + " " + risk + ";", "owe 0 1 1;owe 1 2 2;owe 2 3 4;");
                    int[] left = {6, 4, 1, 3};
                    T.asks(x, fails ? 1 : 0, "months 0 0 3 " + seed + " 1 2");
                    T.asks(x, fails ? left[p] : 7, "months 0 0 3 " + seed + " 1 1");
                }
            }
        }
    }

    private static void promise32MonthsPass() {
        RingVillage x = Telling.with("people 2;all 9;", "month;month;ring 1 1 0 1;ring 2 2 0 1;ring 4 3 0 1;");
        T.asks(x, 7, "months 0 0 5 1 0 0");
        T.asks(x, 4, "months 0 0 5 1 1 0");
        T.asks(x, 0, "months 0 0 5 1 2 0|1");
        T.asks(x, 8, "months 0 0 5 1 1 1");
        T.asks(x, 2, "state 0 0 5 0");
        T.asks(x, 7, "state 0 0 5 2");
        // From seed 1 the first number is 38: 0 fails, and his rings with him; 1 and 2 keep theirs.
        RingVillage y = Telling.with("people 3;all 9;risk 0 39;", "ring 1 9 0 1;ring 2 9 1 2;ring 4 0 1 2;");
        T.asks(y, 2, "months 0 0 3 1 1 0");
        T.asks(y, 4, "months 0 0 3 1 1 1");
        T.asks(y, 1, "months 0 0 3 1 1 2");
    }

    private static void promise32MonthsLawful() {
        // Struck in the 24th month, the ring takes 1 to 0 off, and what was paid and owed another way is left.
        String row = "ring 5 23 0 1;pay 0 1 5;owe 0 2 5;owe 2 1 5;";
        RingVillage x = Telling.with("all 9;", row);
        T.asks(x, 23, "months 0 0 4 1 24 3");
        T.asks(x, NONE, "months 0 0 4 1 0|1|23 3");
        T.asks(Telling.with("all 9;slack 5;", row), NONE, "months 0 0 4 1 24 3");
        T.asks(Telling.with("all 9;slack 4;", row), 23, "months 0 0 4 1 24 3");
        RingVillage y = Telling.with("all 9;", "owe 0 1 1;");
        T.asks(y, 0, "months 0 0 1 1 1|2|24 3");
        T.asks(y, NONE, "months 0 0 1 1 0 3", "months 0 0 0 1 24 3");
        // What was unlawful once is told, though it is lawful again by a failing: 38, 26, 13, 83 are drawn in the first month.
        RingVillage z = Telling.with("all 9;risk 0 38;", "owe 0 1 1;");
        T.asks(z, 0, "months 0 0 1 1 1|24 3", "months 0 0 1 1 24 1");
    }

    private static void promise37Roll() {
        RingVillage x = Telling.with("people 2;all 99;", "ring 1 0 0 1;ring 1 98 0 1;ring 1 99 0 1;month;strike 2;");
        T.asks(x, 0, "roll 0 0 3 0", "roll 0 0 0 0|999", "roll 0 NONE 0 0|999", "roll 0 0 5 98");
        T.asks(x, 1, "roll 0 0 3 1|98");
        T.asks(x, 3, "roll 0 0 3 99");
        T.asks(x, 7, "roll 0 0 3 100|998|999");
        T.asks(x, 6, "roll 0 0 4 100|999");
        T.asks(x, 2, "roll 0 0 5 99|100|999");
        T.asks(x, NONE, "roll 0 0 3 -1|1000|MIN|MAX");
        T.asks(Telling.with("people 2;all 99;", "ring 1 0 0 1;".repeat(30)), (1 << 30) - 1, "roll 0 0 30 1|999");
    }
}
