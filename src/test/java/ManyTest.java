/** Promises 21 to 27, 34 to 36, 38 and 39: many wants at one time. */
public final class ManyTest {
    private static final int NONE = RingVillage.NONE;
    private static final int NO_BALANCE = -100000;
    private static final Telling T = new Telling("ManyTest");
    // 0 1 has room of 5; from 1 to 0 three ways: 2 straight on, 2 by 2, 1 by 3 and 4.
    private static final String THREE_WAYS = "people 5;word 1 0 5;word 0 1 2;word 2 1 2;word 0 2 3;word 3 1 4;word 4 3 1;word 0 4 9;";

    public static void main(String[] args) {
        byParts();
        hadAtOnce();
        hadWithSlack();
        most();
        worthOfAPerson();
        trustThatLacks();
        leastOfWords();
        gaps();
        tightAndOpens();
        lentAndWeak();
        waysThatGiveWay();
        ninePeople();
        noSuchStates();
        T.close();
    }

    private static void byParts() {
        RingVillage x = Telling.with(THREE_WAYS + "want 0 1 4 1;want 0 1 6 1;want 1 0 9 1;want 0 2 1 1;", "owe 0 1 2;owe 1 2 1;");
        T.due("up to n", x.much(0, NONE, 0, 0), 4);
        T.due("up to the room to B, by several ways", x.much(0, NONE, 0, 1), 5);
        T.due("the other way about", x.much(0, NONE, 0, 2), 2);
        T.due("no room to B", x.much(0, NONE, 0, 3), 0);
        T.due("less by what is owed", x.much(0, 0, 1, 1), 3);
        RingVillage y = Telling.with(THREE_WAYS + "word 1 0 99;want 0 1 99 1;", "owe 1 2 1;");
        T.due("up to what goes back", y.much(0, NONE, 0, 0), 5);
        T.due("less goes back", y.much(0, 0, 1, 0), 4);
        T.due("no such want", y.much(0, NONE, 0, 1), NONE);
        T.due("no such want", y.much(0, NONE, 0, -1), NONE);
    }

    private static void hadAtOnce() {
        RingVillage x = Telling.with(THREE_WAYS + "want 0 1 3 1;want 0 1 2 1;want 0 1 1 1;want 1 0 2 1;", "owe 1 2 1;");
        boolean[] due = {true, true, true, true, true, true, true, false, true, true, true, true, true, true, true, false};
        for (int set = 0; set < due.length; set++) {
            T.due("had " + set, x.had(0, NONE, 0, set, false), due[set]);
        }
        T.due("had behind a debt", x.had(0, 0, 1, 3, false), false);
        T.due("had behind a debt", x.had(0, 0, 1, 1, false), true);
        T.due("had of no such want", x.had(0, NONE, 0, 16, false), false);
        T.due("had of no such want", x.had(0, NONE, 0, -1, false), false);
        T.due("had of no such want", x.had(0, NONE, 0, Integer.MIN_VALUE, true), false);
        T.due("none of no wants", Telling.with("", "").had(0, NONE, 0, 0, false), true);
    }

    private static void hadWithSlack() {
        String village = "people 3;word 1 0 5;word 2 1 4;word 0 2 3;want 0 1 3 1;want 0 1 4 2;want 0 1 5 4;";
        int[] sets = {1, 2, 4};
        boolean[][] due = {{true, false, false}, {true, true, false}, {true, true, true}};
        for (int slack = 0; slack < 3; slack++) {
            RingVillage x = Telling.with(village + "slack " + slack + ";", "owe 0 1 1;");
            for (int i = 0; i < 3; i++) {
                T.due("had " + sets[i] + " with slack " + slack, x.had(0, NONE, 0, sets[i], true), due[slack][i]);
                T.due("had " + sets[i] + " without", x.had(0, NONE, 0, sets[i], false), due[0][i]);
            }
            T.due("slack makes no room", x.had(0, 0, 1, 4, true), false);
            T.due("most with slack", x.most(0, NONE, 0, true, false), sets[slack]);
            T.due("most worth with slack", x.most(0, NONE, 0, true, true), sets[slack]);
            T.due("shilling", x.shilling(0, NONE, 0), sets[slack] - 1);
        }
    }

    private static void most() {
        RingVillage x = Telling.with("people 3;all 4;want 0 1 4 5;want 0 1 2 3;want 0 1 2 2;want 1 2 1 0;want 2 0 1 7;", "owe 0 1 1;");
        T.due("of several the fewest; worth 0 is left out", x.most(0, NONE, 0, false, false), 17);
        T.due("its worth", x.most(0, NONE, 0, false, true), 12);
        T.due("behind a debt", x.most(0, 0, 1, false, false), 18);
        T.due("its worth", x.most(0, 0, 1, false, true), 10);
        RingVillage y = Telling.with("people 3;all 2;want 0 1 2 5;want 0 1 2 5;want 0 1 2 4;", "");
        T.due("of several the least number", y.most(0, NONE, 0, false, false), 1);
        RingVillage z = Telling.with("people 3;all 2;want 0 1 2 0;", "");
        T.due("no worth at all", z.most(0, NONE, 0, false, false), 0);
        T.due("no worth at all", z.most(0, NONE, 0, true, true), 0);
        RingVillage w = Telling.with("all 9;want 0 1 1 99;want 1 2 1 99;want 2 3 1 99;want 3 0 1 99;want 0 2 1 99;want 2 1 1 99;want 1 3 1 99;", "");
        T.due("all seven", w.most(0, NONE, 0, false, false), 127);
        T.due("all seven, worth", w.most(0, NONE, 0, false, true), 693);
    }

    private static void worthOfAPerson() {
        RingVillage x = Telling.with("people 4;word 1 0 5;word 2 1 3;word 0 2 5;word 3 1 2;word 0 3 5;want 0 1 3 4;want 0 1 2 1;", "");
        T.due("without 2 the second alone", x.worth(0, NONE, 0, 2), 4);
        T.due("without 3 the first alone", x.worth(0, NONE, 0, 3), 1);
        T.due("without A none", x.worth(0, NONE, 0, 0), 5);
        T.due("without B none", x.worth(0, NONE, 0, 1), 5);
        T.due("none of people", x.worth(0, NONE, 0, 4), NONE);
        T.due("none of people", x.worth(0, NONE, 0, -1), NONE);
        T.due("all is as before", x.most(0, NONE, 0, false, true), 5);
    }

    private static void trustThatLacks() {
        RingVillage x = Telling.with(THREE_WAYS + "want 0 1 5 1;want 0 1 3 1;want 3 2 4 1;want 4 3 2 0;", "owe 1 2 2;owe 0 1 5;");
        int[] due = {0, 0, 0, 6};
        for (int set = 0; set < due.length; set++) {
            T.due("need " + set, x.need(0, NONE, 0, set), due[set]);
        }
        // 4 of 3 to 2, which 2 has to give back to 3: 2 0 1 3 has room of 3, and one word more is straight on.
        T.due("need of a debt that no word is for", x.need(0, NONE, 0, 4), 5);
        T.due("need of what goes back in part", x.need(0, NONE, 0, 8), 3);
        T.due("need behind a debt", x.need(0, 0, 1, 1), 2);
        T.due("need where no room is left", x.need(0, 0, 2, 1), 7);
        T.due("need of no such want", x.need(0, NONE, 0, 16), NONE);
        T.due("need of no such want", x.need(0, NONE, 0, -1), NONE);
        RingVillage y = Telling.with("people 2;want 0 1 99 0;want 0 1 99 0;want 0 1 99 0;want 0 1 99 0;want 0 1 99 0;want 0 1 99 0;want 0 1 99 0;slack 9;", "");
        T.due("words may grow above 99", y.need(0, NONE, 0, 127), 2 * 693);
        T.due("need without slack", y.need(0, NONE, 0, 1), 198);
    }

    private static void leastOfWords() {
        T.due("no wants", Telling.with("all 9;", "").least(0), 0);
        T.due("one want", Telling.with("want 0 1 7 0;", "").least(0), 7);
        T.due("of the same two together", Telling.with("want 0 1 7 0;want 0 1 6 0;", "").least(0), 13);
        T.due("what comes to one must go from him", Telling.with("people 3;want 0 1 9 0;want 0 2 9 0;want 1 2 9 0;", "").least(0), 9);
        T.due("up to 99", Telling.with("people 2;want 0 1 99 0;", "").least(0), 99);
        T.due("none", Telling.with("people 2;want 0 1 99 0;want 0 1 1 0;", "").least(0), NONE);
        T.due("words as they are don't matter", Telling.with("all 99;slack 9;want 0 1 5 0;", "owe 0 1 9;").least(0), 5);
        RingVillage x = Telling.with("people 4;want 0 1 9 0;want 2 1 9 0;want 3 1 9 0;", "");
        T.due("back on all ways", x.least(0), 9);
        T.due("no such village", x.least(1), NONE);
        T.due("no such village", x.least(-1), NONE);
    }

    private static void gaps() {
        // The short ring of the first want takes the room that the second one has to go by.
        String village = "people 4;word 1 0 1;word 2 1 1;word 0 2 1;word 3 1 1;word 0 3 1;want 0 1 1 2;want 1 2 1 5;";
        RingVillage x = Telling.with(village, "month;");
        T.due("one ring has both", x.most(0, NONE, 0, false, true), 7);
        T.due("one by one begins two", x.one(0, NONE, 0, 0, 1), 2);
        T.due("gap", x.gap(0, NONE, 0), 5);
        T.due("gap", x.gap(0, 0, 1), 5);
        T.due("no gap", Telling.with("all 9;want 0 1 1 5;", "").gap(0, NONE, 0), 0);
        T.due("gap in no state", x.gap(0, 0, 2), NO_BALANCE);
        T.due("gap in no state", x.gap(1, NONE, 0), NO_BALANCE);
    }

    private static void tightAndOpens() {
        RingVillage x = Telling.with("people 3;word 1 0 3;word 2 1 2;word 0 2 2;want 0 1 2 3;want 0 1 1 4;want 2 1 1 5;", "owe 0 1 1;");
        // At first 0 1 2 by 2 has the first (3) or the second (4); not both (3 to 1, 2 back). 2 to 1 has no room.
        T.due("most", x.most(0, NONE, 0, false, true), 4);
        T.due("straight back: 3 is had", x.tight(0, NONE, 0, 1, 0), 3);
        T.due("one more to 2 alone", x.tight(0, NONE, 0, 1, 2), 0);
        T.due("one more to 0 alone", x.tight(0, NONE, 0, 2, 0), 0);
        T.due("one more of what is enough", x.tight(0, NONE, 0, 0, 1), 0);
        T.due("2 to 1 and back", x.tight(0, NONE, 0, 2, 1), 5);
        T.due("no use", x.tight(0, NONE, 0, 0, 2), 0);
        T.due("opens", x.opens(0, NONE, 0, false), 2);
        T.due("opens, second", x.opens(0, NONE, 0, true), 1);
        T.due("both are one", x.tight(0, NONE, 0, 1, 1), NONE);
        T.due("none of people", x.tight(0, NONE, 0, 1, 3), NONE);
        T.due("none of people", x.tight(0, NONE, 0, -1, 1), NONE);
        RingVillage y = Telling.with("people 3;word 1 0 2;word 2 1 1;word 0 2 1;want 0 1 2 3;", "owe 1 2 1;");
        T.due("of several the least: straight back only", y.opens(0, NONE, 0, false), 1);
        T.due("of several the least: straight back only", y.opens(0, NONE, 0, true), 0);
        T.due("two lack: none", y.opens(0, 0, 1, false), NONE);
        T.due("two lack: none", y.opens(0, 0, 1, true), NONE);
        RingVillage z = Telling.with("people 4;word 1 0 1;word 0 2 1;word 0 3 1;want 0 1 1 3;", "");
        T.due("1 to 0, 1 to 2 and 1 to 3 do alike", z.tight(0, NONE, 0, 1, 3), 3);
        T.due("the least B", z.opens(0, NONE, 0, true), 0);
        T.due("no wants", Telling.with("all 1;", "").opens(0, NONE, 0, false), NONE);
        T.due("slack is not asked", Telling.with("people 2;word 1 0 1;slack 1;want 0 1 1 3;", "").tight(0, NONE, 0, 1, 0), 3);
    }

    private static void lentAndWeak() {
        RingVillage x = Telling.with(THREE_WAYS, "owe 1 2 1;");
        T.due("by several ways", x.lent(0, NONE, 0, 1, 0), 5);
        T.due("less by what is owed", x.lent(0, 0, 1, 1, 0), 4);
        T.due("one way", x.lent(0, NONE, 0, 0, 1), 5);
        T.due("on and on", x.lent(0, NONE, 0, 4, 2), 2);
        T.due("both are one", x.lent(0, NONE, 0, 1, 1), NONE);
        T.due("none of people", x.lent(0, NONE, 0, 1, 5), NONE);
        T.due("none of people", x.lent(0, NONE, 0, -1, 1), NONE);
        // To 4 goes 1 at most, from whom ever: 0 is the least.
        T.due("weak", x.weak(0, NONE, 0, false), 0);
        T.due("weak, second", x.weak(0, NONE, 0, true), 4);
        RingVillage y = Telling.with("people 3;all 4;word 1 2 3;word 0 2 3;", "owe 2 0 1;");
        T.due("weak from 2", y.weak(0, 0, 1, false), 2);
        T.due("weak from 2, second", y.weak(0, 0, 1, true), 0);
        RingVillage z = Telling.with("people 2;", "");
        T.due("no room at all", z.weak(0, NONE, 0, false), 0);
        T.due("no room at all", z.weak(0, NONE, 0, true), 1);
    }

    private static void waysThatGiveWay() {
        // The first short way from 0 to 5, by 1 and 3, bars 2; it has to turn off to 4 and 6.
        String village = "people 7;word 1 0 1;word 3 1 1;word 5 3 1;word 2 0 1;word 3 2 1;word 4 1 1;word 6 4 1;word 5 6 1;"
            + "word 0 5 2;want 5 0 2 3;";
        RingVillage x = Telling.with(village, "");
        T.due("lent", x.lent(0, NONE, 0, 0, 5), 2);
        T.due("much", x.much(0, NONE, 0, 0), 2);
        T.due("had", x.had(0, NONE, 0, 1, false), true);
        T.due("need", x.need(0, NONE, 0, 1), 0);
        T.due("most", x.most(0, NONE, 0, false, true), 3);
        RingVillage y = Telling.with(village + "word 6 4 0;", "");
        T.due("need", y.need(0, NONE, 0, 1), 1);
        T.due("tight where it lacks", y.tight(0, NONE, 0, 4, 6), 3);
        T.due("opens", y.opens(0, NONE, 0, false), 0);
        T.due("opens, second", y.opens(0, NONE, 0, true), 5);
    }

    private static void ninePeople() {
        RingVillage x = Telling.with("people 9;word 8 7 3;word 6 8 2;word 7 6 3;word 0 8 1;word 7 0 1;want 7 8 3 4;want 8 6 2 1;want 6 8 1 9;", "");
        T.due("had", x.had(0, NONE, 0, 3, false), true);
        T.due("need", x.need(0, NONE, 0, 3), 0);
        T.due("one for 6 to 8, one for 8 to give away what he is owed", x.need(0, NONE, 0, 7), 2);
        T.due("most", x.most(0, NONE, 0, false, false), 3);
        T.due("worth of 0", x.worth(0, NONE, 0, 0), 4);
        T.due("worth of 8", x.worth(0, NONE, 0, 8), 5);
        T.due("the second and the third are had then", x.tight(0, NONE, 0, 6, 8), 5);
        T.due("opens", x.opens(0, NONE, 0, false), 6);
        T.due("opens, second", x.opens(0, NONE, 0, true), 8);
        T.due("lent", x.lent(0, NONE, 0, 7, 8), 3);
        T.due("lent", x.lent(0, NONE, 0, 8, 7), 3);
        T.due("least", x.least(0), 3);
    }

    private static void noSuchStates() {
        RingVillage x = Telling.with("all 5;want 0 1 1 1;", "owe 0 1 2;");
        int[][] states = {{1, 0, 0}, {-1, 0, 0}, {0, 1, 0}, {0, -2, 0}, {0, 0, 2}, {0, 0, -1}, {0, NONE, 1}, {0, NONE, -1}};
        for (int[] s : states) {
            String at = "(" + s[0] + ", " + s[1] + ", " + s[2] + ")";
            T.due("much" + at, x.much(s[0], s[1], s[2], 0), NONE);
            T.due("had" + at, x.had(s[0], s[1], s[2], 0, false), false);
            T.due("most" + at, x.most(s[0], s[1], s[2], false, false), NONE);
            T.due("shilling" + at, x.shilling(s[0], s[1], s[2]), NONE);
            T.due("worth" + at, x.worth(s[0], s[1], s[2], 0), NONE);
            T.due("need" + at, x.need(s[0], s[1], s[2], 0), NONE);
            T.due("gap" + at, x.gap(s[0], s[1], s[2]), NO_BALANCE);
            T.due("tight" + at, x.tight(s[0], s[1], s[2], 0, 1), NONE);
            T.due("opens" + at, x.opens(s[0], s[1], s[2], false), NONE);
            T.due("lent" + at, x.lent(s[0], s[1], s[2], 0, 1), NONE);
            T.due("weak" + at, x.weak(s[0], s[1], s[2], true), NONE);
        }
    }
}
