/** Promises 10 to 17, 28, 32 and 37: what is owed by then. */
public final class StateTest {
    private static final int NONE = RingVillage.NONE;
    private static final int NO_BALANCE = -100000;
    private static final Telling T = new Telling("StateTest");

    public static void main(String[] args) {
        owingAndPaying();
        actsThatCanNotBe();
        ringsBegunAndStruck();
        ringsEndByMonths();
        failing();
        hours();
        sums();
        partedIntoRings();
        worstOfAll();
        nothingStaysOfOtherStates();
        noSuchStates();
        monthsBySeed();
        rolls();
        T.close();
    }

    private static void stops(String village, String row, int stop) {
        RingVillage x = Telling.with(village, row);
        T.due("stop of " + row, x.stop(0, 0), stop);
        T.due("there is a state up to stop: " + row, x.state(0, 0, stop, 0) >= 0, true);
        T.due("and none behind: " + row, x.state(0, 0, stop + 1, 0), -2);
    }

    private static void owingAndPaying() {
        RingVillage x = Telling.with("word 1 0 7;", "owe 0 1 4;owe 0 1 3;pay 0 1 5;");
        int[] owed = {0, 4, 7, 2};
        for (int n = 0; n <= 3; n++) {
            T.due("owes behind " + n, x.owes(0, 0, n, 0, 1), owed[n]);
            T.due("nobody owes back behind " + n, x.owes(0, 0, n, 1, 0), 0);
            T.due("room behind " + n, x.room(0, 0, n, 0, 1), 7 - owed[n]);
            T.due("over 0 behind " + n, x.over(0, 0, n, 0), owed[n]);
            T.due("over 1 behind " + n, x.over(0, 0, n, 1), -owed[n]);
        }
        T.due("room the other way", x.room(0, 0, 3, 1, 0), 0);
        T.due("room to oneself", x.room(0, 0, 3, 1, 1), 0);
        T.due("owes oneself", x.owes(0, 0, 3, 1, 1), 0);
        T.due("behind none", x.owes(0, NONE, 0, 0, 1), 0);
        T.due("stop", x.stop(0, 0), 3);
        T.due("stop of no village", x.stop(1, 0), NONE);
        T.due("stop of no village", x.stop(-1, 0), NONE);
        T.due("stop of no row", x.stop(0, 1), NONE);
        T.due("stop of row NONE", x.stop(0, NONE), NONE);
    }

    private static void actsThatCanNotBe() {
        stops("all 5;", "", 0);
        stops("all 5;", "owe 0 1 6;", 0);
        stops("all 5;", "owe 0 1 5;owe 0 1 1;", 1);
        stops("all 5;", "owe 0 4 1;", 0);
        stops("all 5;", "owe 4 0 1;", 0);
        stops("all 5;", "pay 0 1 1;", 0);
        stops("all 5;", "owe 0 1 2;pay 0 1 3;", 1);
        stops("all 5;", "owe 0 1 2;pay 1 0 1;", 1);
        stops("all 5;", "pay 8 0 1;", 0);
        stops("all 5;", "ring 5 0 0 1;ring 1 0 2 0 1;", 1);
        stops("all 5;", "ring 5 0 0 1;ring 5 0 0 2;", 2);
        stops("all 5;", "ring 6 0 0 1;", 0);
        stops("all 5;", "ring 1 0 0 1 2 4;", 0);
        stops("all 5;word 0 3 4;", "ring 5 9 0 1 2 3;", 0);
        stops("all 5;word 3 0 4;", "ring 5 9 0 1 2 3;", 1);
        stops("all 5;", "strike 0;", 0);
        stops("all 5;", "ring 1 0 0 1;strike 1;", 1);
        stops("all 5;", "ring 1 0 0 1;strike 0;strike 0;", 2);
        stops("all 5;", "fail 4;", 0);
        stops("all 5;", "fail 3;fail 3;month;", 3);
        stops("all 5;", "month;month;month;fail 8;month;", 3);
    }

    private static void ringsBegunAndStruck() {
        RingVillage x = Telling.with("people 5;all 9;", "ring 4 7 3 1 4;ring 2 9 4 3;pay 3 1 1;owe 4 3 1;strike 0;strike 1;");
        int[] first = {3, 4, 7, 1};
        for (int what = 0; what < 4; what++) {
            T.due("ring 0, what " + what, x.ring(0, 0, 1, 0, what), first[what]);
        }
        int[] who = {3, 1, 4, NONE, NONE, NONE, NONE};
        for (int i = 0; i < who.length; i++) {
            T.due("who is in it, " + i, x.ring(0, 0, 1, 0, 10 + i), who[i]);
        }
        T.due("no such what", x.ring(0, 0, 1, 0, 4), NONE);
        T.due("no such what", x.ring(0, 0, 1, 0, 9), NONE);
        T.due("no such what", x.ring(0, 0, 1, 0, -1), NONE);
        T.due("no such ring", x.ring(0, 0, 1, 1, 0), NONE);
        T.due("no such ring", x.ring(0, 0, 1, -1, 0), NONE);
        T.due("no ring by then", x.ring(0, 0, 0, 0, 0), NONE);
        T.due("ring 1", x.ring(0, 0, 2, 1, 1), 2);
        T.due("owes in a ring", x.owes(0, 0, 1, 3, 1), 4);
        T.due("owes in a ring", x.owes(0, 0, 1, 1, 4), 4);
        T.due("the last one owes the first", x.owes(0, 0, 1, 4, 3), 4);
        T.due("not the other way", x.owes(0, 0, 1, 1, 3), 0);
        T.due("two rings together", x.owes(0, 0, 2, 4, 3), 6);
        T.due("struck, 0 at least", x.owes(0, 0, 5, 3, 1), 0);
        T.due("struck, what else is owed stays", x.owes(0, 0, 5, 4, 3), 3);
        T.due("struck, it is not open", x.ring(0, 0, 5, 0, 3), 0);
        T.due("struck, it is still told", x.ring(0, 0, 5, 0, 0), 3);
        int[] open = {0, 1, 3, 3, 3, 2, 0};
        for (int n = 0; n < open.length; n++) {
            T.due("open behind " + n, x.state(0, 0, n, 2), open[n]);
            T.due("rings behind " + n, x.state(0, 0, n, 1), Math.min(n, 2));
        }
        T.due("falls of 3", x.falls(0, 0, 4, 3, false), 3);
        T.due("falls of 1", x.falls(0, 0, 4, 1, false), 1);
        T.due("falls of 0", x.falls(0, 0, 4, 0, false), 0);
        T.due("hit of 3", x.falls(0, 0, 4, 3, true), 1 << 1 | 1 << 4);
        T.due("hit of 1", x.falls(0, 0, 4, 1, true), 1 << 3 | 1 << 4);
        T.due("hit of 0", x.falls(0, 0, 4, 0, true), 0);
        T.due("a ring that is struck falls not", x.falls(0, 0, 5, 1, false), 0);
        T.due("a ring that is struck hits none", x.falls(0, 0, 5, 1, true), 0);
        T.due("hit by the other ring", x.falls(0, 0, 5, 3, true), 1 << 4);
        T.due("falls of none of people", x.falls(0, 0, 4, 5, false), NONE);
        T.due("falls of none of people", x.falls(0, 0, 4, -1, true), NONE);
        T.due("falls in no state", x.falls(0, 0, 7, 0, false), NONE);
    }

    private static void ringsEndByMonths() {
        RingVillage x = Telling.with("all 9;", "ring 1 0 0 1;ring 2 1 0 1;ring 4 2 1 2;month;month;month;");
        int[] open = {0, 1, 3, 7, 6, 4, 0};
        int[] owed = {0, 1, 3, 3, 2, 0, 0};
        for (int n = 0; n <= 6; n++) {
            T.due("open behind " + n, x.state(0, 0, n, 2), open[n]);
            T.due("owed behind " + n, x.owes(0, 0, n, 0, 1), owed[n]);
            T.due("month behind " + n, x.state(0, 0, n, 0), Math.max(0, n - 3));
        }
    }

    private static void failing() {
        RingVillage x = Telling.with("people 5;all 9;", "ring 3 9 0 1 2;ring 2 9 1 2 3;owe 3 4 5;owe 2 0 1;pay 1 2 4;fail 0;fail 3;");
        T.due("before", x.owes(0, 0, 5, 1, 2), 1);
        T.due("the ring is struck", x.state(0, 0, 6, 2), 2);
        T.due("0 at least", x.owes(0, 0, 6, 1, 2), 0);
        T.due("he owes nobody", x.owes(0, 0, 6, 0, 1), 0);
        T.due("nobody owes him", x.owes(0, 0, 6, 2, 0), 0);
        T.due("others owe as before", x.owes(0, 0, 6, 2, 3), 2);
        T.due("others owe as before", x.owes(0, 0, 6, 3, 4), 5);
        T.due("the second fails", x.state(0, 0, 7, 2), 0);
        T.due("the second fails", x.state(0, 0, 7, 3), 0);
    }

    private static void hours() {
        String row = "ring 2 9 0 1 2;owe 0 1 1;owe 1 0 1;owe 0 1 2;fail 0;owe 0 1 99;";
        int[] want = {1, 3, NONE};
        for (int slack = 0; slack < 3; slack++) {
            RingVillage x = Telling.with("all 9;slack " + slack + ";", row);
            T.due("hour with slack " + slack, x.hour(0, 0), want[slack]);
            T.due("lawful behind the ring", x.lawful(0, 0, 1), true);
            T.due("lawful behind 1 more", x.lawful(0, 0, 2), slack >= 1);
            T.due("lawful behind it came back", x.lawful(0, 0, 3), true);
            T.due("lawful behind 2 more", x.lawful(0, 0, 4), slack >= 2);
            T.due("lawful behind none", x.lawful(0, NONE, 0), true);
            T.due("no state is lawful", x.lawful(0, 0, 6), false);
            T.due("no state is lawful", x.lawful(1, 0, 0), false);
            T.due("no state is lawful", x.lawful(0, 1, 0), false);
            T.due("hour of no village", x.hour(1, 0), NONE);
            T.due("hour of no row", x.hour(0, 1), NONE);
            T.due("hour of row NONE", x.hour(0, NONE), NONE);
        }
        RingVillage x = Telling.with("all 9;", "owe 0 1 99;owe 0 1 1;");
        T.due("no hour behind stop", x.hour(0, 0), NONE);
    }

    private static void sums() {
        String village = "people 6;word 1 0 9;word 0 1 4;word 2 1 5;word 4 3 6;word 3 4 6;";
        RingVillage x = Telling.with(village, "owe 0 1 7;owe 1 0 3;owe 1 2 5;owe 3 4 2;owe 4 3 2;");
        int[][] want = {
            {0, 0, 0, 0, 30, 0, 0, 0, 63, 0, 0},
            {0, 0, 0, 7, 23, 7, NONE, 0, 60, 1, 0},
            {0, 0, 0, 10, 20, 4, NONE, 1, 60, 1, 0},
            {0, 0, 0, 15, 15, 9, NONE, 1, 56, 1, 1},
            {0, 0, 0, 17, 13, 11, NONE, 1, 32, 2, 1},
            {0, 0, 0, 19, 11, 9, NONE, 2, 32, 2, 1}};
        for (int n = 0; n < want.length; n++) {
            for (int what = 0; what <= 10; what++) {
                T.due("state behind " + n + ", what " + what, x.state(0, 0, n, what), want[n][what]);
            }
        }
        T.due("no such what", x.state(0, 0, 0, 11), -2);
        T.due("no such what", x.state(0, 0, 0, -1), -2);
        T.due("no such what", x.state(0, 0, 0, Integer.MIN_VALUE), -2);
    }

    private static void partedIntoRings() {
        RingVillage x = Telling.with("people 5;all 50;", "ring 3 9 0 1 2;ring 2 9 1 0;ring 4 9 3 4;ring 1 9 0 2 1;owe 0 1 1;");
        T.due("behind none", x.state(0, NONE, 0, 6), 0);
        T.due("one ring", x.state(0, 0, 1, 6), 1);
        // 0 owes 1: 5, 1 owes 0: 2 and 2: 3, 2 owes 0: 3.
        T.due("two rings", x.state(0, 0, 2, 6), 2);
        T.due("three rings", x.state(0, 0, 3, 6), 3);
        // Now 0 owes 1: 5 and 2: 1, 1 owes 0: 3 and 2: 3, 2 owes 0: 3 and 1: 1. 0 1: 3; 0 1 2: 2; 0 2: 1; then 1 2: 1; then 3 4.
        T.due("rings that part anew", x.state(0, 0, 4, 6), 5);
        T.due("none", x.state(0, 0, 5, 6), NONE);
        RingVillage y = Telling.with("people 4;all 50;slack 1;", "owe 0 1 1;ring 5 9 0 3 2 1;");
        T.due("slack does not make it parted", y.state(0, 0, 2, 6), NONE);
        RingVillage z = Telling.with("people 4;all 50;", "ring 5 9 1 3 2;ring 2 9 0 3 2;");
        // From 0 on: 0 3 2 0 takes 2 off; then 1 3 2 1.
        T.due("from the least one on", z.state(0, 0, 2, 6), 2);
        RingVillage w = Telling.with("people 5;all 50;", "ring 5 9 0 4 1 3;ring 5 9 1 2;");
        // 0 4 1 2, then 1 again: the ring is 1 2, and the way to it is kept.
        T.due("a way into a ring is no part of it", w.state(0, 0, 2, 6), 2);
    }

    private static void worstOfAll() {
        RingVillage x = Telling.with("people 4;all 50;", "ring 5 9 1 2 3;owe 0 1 7;owe 0 2 4;");
        // Failing: 0 leaves 15, 1 (its ring struck too) leaves 4, 2 leaves 7, 3 leaves 11.
        T.due("worst", x.state(0, 0, 3, 10), 1);
        T.due("worst by a ring: all alike, the least", x.state(0, 0, 1, 10), 1);
        T.due("worst where nothing falls", x.state(0, 0, 0, 10), 0);
        T.due("it is told only", x.state(0, 0, 3, 3), 26);
    }

    private static void nothingStaysOfOtherStates() {
        RingVillage x = Telling.with("all 9;risk 1 99;", "ring 1 0 0 1 3;ring 2 0 1 2;owe 1 2 2;month;");
        Telling.tell(x, 1, NONE, "strike 0;");
        Telling.tell(x, 1, NONE, "owe 0 1 1;owe 1 3 2;fail 0;");
        Telling.tell(x, 0, NONE, "all 9;");
        for (int n = 2; n >= 0; n--) {
            T.due("two rings", x.state(0, 0, 3, 2), 3);
            T.due("falls with " + n + " rings", x.falls(0, 0, n, 1, false), (1 << n) - 1);
            T.due("two rings", x.state(0, 0, 3, 2), 3);
            T.due("hit with " + n + " rings", x.falls(0, 0, n, 1, true), n == 0 ? 0 : n == 1 ? 9 : 13);
            T.due("two rings", x.state(0, 0, 3, 2), 3);
            T.due("roll with " + n + " rings", x.roll(0, 0, n, 1), (1 << n) - 1);
        }
        T.due("two rings", x.state(0, 0, 3, 2), 3);
        T.due("there is no ring to strike", x.stop(0, 1), 0);
        T.due("two rings", x.state(0, 0, 3, 2), 3);
        T.due("there is no ring that falls", x.owes(0, 2, 3, 1, 3), 2);
        T.due("there is no ring to end", x.state(0, 2, 2, 3), 3);
        RingVillage y = Telling.with("people 2;all 9;", "month;".repeat(30));
        T.due("thirty acts", y.stop(0, 0), 30);
        T.due("thirty acts", y.hour(0, 0), NONE);
        T.due("thirty acts", y.state(0, 0, 30, 0), 30);
        T.due("no 31st", y.state(0, 0, 31, 0), -2);
        RingVillage z = Telling.with("people 2;all 99;", "ring 1 99 0 1;".repeat(30));
        T.due("thirty rings", z.state(0, 0, 30, 2), (1 << 30) - 1);
        T.due("thirty rings", z.ring(0, 0, 30, 29, 11), 1);
    }

    private static void noSuchStates() {
        RingVillage x = Telling.with("all 5;want 0 1 1 1;", "owe 0 1 1;owe 0 1 9;month;");
        int[][] states = {{1, 0, 0}, {-1, 0, 0}, {0, 1, 0}, {0, -2, 0}, {0, 0, 2}, {0, 0, 3}, {0, 0, 4}, {0, 0, -1},
            {0, 0, Integer.MAX_VALUE}, {0, NONE, -1}, {0, NONE, 1}, {Integer.MIN_VALUE, Integer.MIN_VALUE, 0}};
        for (int[] s : states) {
            x = Telling.with("all 5;want 0 1 1 1;", "owe 0 1 1;owe 0 1 9;month;");
            String at = "(" + s[0] + ", " + s[1] + ", " + s[2] + ")";
            T.due("owes" + at, x.owes(s[0], s[1], s[2], 0, 1), NONE);
            T.due("room" + at, x.room(s[0], s[1], s[2], 0, 1), NONE);
            T.due("over" + at, x.over(s[0], s[1], s[2], 0), NO_BALANCE);
            T.due("lawful" + at, x.lawful(s[0], s[1], s[2]), false);
            T.due("state" + at, x.state(s[0], s[1], s[2], 0), -2);
            T.due("ring" + at, x.ring(s[0], s[1], s[2], 0, 0), NONE);
            T.due("falls" + at, x.falls(s[0], s[1], s[2], 0, false), NONE);
            T.due("months" + at, x.months(s[0], s[1], s[2], 1, 0, 1), -2);
            T.due("roll" + at, x.roll(s[0], s[1], s[2], 0), NONE);
        }
        T.due("owes of none", x.owes(0, 0, 1, 4, 0), NONE);
        T.due("owes of none", x.owes(0, 0, 1, 0, 4), NONE);
        T.due("owes of none", x.owes(0, 0, 1, -1, 0), NONE);
        T.due("room of none", x.room(0, 0, 1, 4, 0), NONE);
        T.due("room of none", x.room(0, 0, 1, 0, -1), NONE);
        T.due("over of none", x.over(0, 0, 1, 4), NO_BALANCE);
        T.due("over of none", x.over(0, 0, 1, -1), NO_BALANCE);
    }

    private static void monthsBySeed() {
        // From seed 1: 1103527590 >>> 16 = 16838, 38 below 100; then 2524885223 >>> 16 = 38526, 26; then 662824084: 10113, 13; 3295386429: 50283, 83.
        String row = "ring 5 0 0 1;ring 3 1 1 0;ring 2 99 2 3;owe 2 0 4;";
        RingVillage x = Telling.with("all 50;risk 0 38;risk 1 26;risk 2 13;risk 3 83;", row);
        T.due("none fails: not below", x.months(0, 0, 4, 1, 1, 2), 0);
        T.due("as by month", x.months(0, 0, 4, 1, 1, 0), 6);
        T.due("left", x.months(0, 0, 4, 1, 1, 1), 14);
        RingVillage y = Telling.with("all 50;risk 0 39;", row);
        T.due("one fails", y.months(0, 0, 4, 1, 1, 2), 1);
        T.due("his rings are struck", y.months(0, 0, 4, 1, 1, 0), 4);
        T.due("left behind him", y.months(0, 0, 4, 1, 1, 1), 4);
        T.due("all is round: no month is unlawful", y.months(0, 0, 4, 1, 1, 3), NONE);
        RingVillage z = Telling.with("all 50;risk 2 14;", row);
        T.due("the first month is not lawful without a failing", x.months(0, 0, 4, 1, 2, 3), 0);
        T.due("2 fails: all is round again", z.months(0, 0, 4, 1, 1, 3), NONE);
        T.due("no months", x.months(0, 0, 4, 1, 0, 0), 7);
        T.due("no months: left", x.months(0, 0, 4, 1, 0, 1), 24);
        T.due("no months: failed", x.months(0, 0, 4, 1, 0, 2), 0);
        T.due("no months: none is unlawful", x.months(0, 0, 4, 1, 0, 3), NONE);
        T.due("24 months", x.months(0, 0, 3, 1, 24, 1) >= 0, true);
        T.due("25 months", x.months(0, 0, 3, 1, 25, 1), -2);
        T.due("-1 months", x.months(0, 0, 3, 1, -1, 1), -2);
        T.due("what 4", x.months(0, 0, 3, 1, 1, 4), -2);
        T.due("what -1", x.months(0, 0, 3, 1, 1, -1), -2);
        T.due("all is as before", x.state(0, 0, 4, 2), 7);
        laterMonths();
    }

    private static void laterMonths() {
        // Debts that a ring's end leaves behind: unlawful from the month on in which it ends.
        RingVillage x = Telling.with("all 50;", "ring 5 1 0 1;pay 0 1 5;owe 0 2 5;owe 2 1 5;");
        T.due("lawful at first", x.lawful(0, 0, 4), true);
        T.due("the second month is the first unlawful one", x.months(0, 0, 4, 7, 3, 3), 1);
        T.due("not by one month", x.months(0, 0, 4, 7, 1, 3), NONE);
        RingVillage y = Telling.with("people 2;all 50;risk 0 99;risk 1 99;", "ring 5 1 0 1;");
        T.due("one may fail month by month", y.months(0, 0, 1, 12345, 24, 2) > 40, true);
    }

    private static void rolls() {
        RingVillage x = Telling.with("all 50;", "ring 1 0 0 1;ring 1 5 0 1;ring 1 99 0 1;strike 1;");
        T.due("roll 0", x.roll(0, 0, 3, 0), 0);
        T.due("roll 1", x.roll(0, 0, 3, 1), 1);
        T.due("roll 5", x.roll(0, 0, 3, 5), 1);
        T.due("roll 6", x.roll(0, 0, 3, 6), 3);
        T.due("roll 6, one struck", x.roll(0, 0, 4, 6), 1);
        T.due("roll 99", x.roll(0, 0, 4, 99), 1);
        T.due("roll 100", x.roll(0, 0, 4, 100), 5);
        T.due("roll 999", x.roll(0, 0, 4, 999), 5);
        T.due("roll 1000", x.roll(0, 0, 4, 1000), NONE);
        T.due("roll -1", x.roll(0, 0, 4, -1), NONE);
    }
}
