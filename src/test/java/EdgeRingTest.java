/** Term 3 and promises 18 to 20, 29 to 31, 33 and 40 at their edges: too small, too large, empty, full. */
public final class EdgeRingTest {
    private static final int NONE = RingVillage.NONE;
    private static final Telling T = new Telling("EdgeRingTest");
    // Each owes the next one only: 0 1 2 3 4 5 0.
    private static final String SIX = "people 6;word 1 0 99;word 2 1 99;word 3 2 99;word 4 3 99;word 5 4 99;word 0 5 99;";
    // 0 to 1, and from 1 back by 2 or by 3.
    private static final String TWO_WAYS = "word 1 0 9;word 2 1 9;word 0 2 9;word 3 1 9;word 0 3 9;want 0 1 9 1;";

    public static void main(String[] args) {
        promise18FindOfTwo();
        promise18FindOfSix();
        promise18FindWithinRoom();
        promise18FindNone();
        promise18CheapAndFastAlike();
        promise19Stands();
        promise20Bars();
        promise20BarsStepByStep();
        promise29Rest();
        promise29RestNone();
        promise30Early();
        promise30EarlyWays();
        promise31Stranger();
        promise31StrangerOfTwo();
        promise33One();
        promise33OneFull();
        promise33OneEarns();
        promise40Take();
        promise40TakeFigures();
        T.close();
    }

    private static void promise18FindOfTwo() {
        RingVillage x = Telling.with("people 2;all 99;fee 0 99;fee 1 99;want 1 0 99 1;", "owe 1 0 1;");
        T.asks(x, 2, "find 0 NONE 0 0 0|1|2 0");
        T.asks(x, 0, "find 0 NONE 0 0 0|1|2 1", "find 0 NONE 0 0 0|1|2 11");
        T.asks(x, 1, "find 0 NONE 0 0 0|1|2 10");
        T.asks(x, NONE, "find 0 NONE 0 0 0|1|2 12|15|16|2|9|-1|MIN|MAX", "find 0 NONE 0 0 -1|3|10|MIN|MAX 0|1|10",
            "find 0 NONE 0 -1|1|7|MIN|MAX 0 0", "find 0 0 1 0 0|1|2 0|1|10");
    }

    private static void promise18FindOfSix() {
        RingVillage x = Telling.with(SIX + "fee 0 99;fee 1 99;fee 2 99;fee 3 99;fee 4 99;fee 5 99;want 0 1 99 1;want 5 0 99 1;want 5 0 1 1;", "");
        T.asks(x, 6, "find 0 NONE 0 0|1|2 0|1|2 0");
        T.asks(x, 396, "find 0 NONE 0 0|1|2 0|1|2 1");
        for (int i = 0; i < 6; i++) {
            T.asks(x, i, "find 0 NONE 0 0 0|1|2 " + (10 + i));
            T.asks(x, (i + 5) % 6, "find 0 NONE 0 1|2 0|1|2 " + (10 + i));
        }
        T.asks(x, NONE, "find 0 NONE 0 0|1|2 0|1|2 16|9", "find 0 NONE 0 3 0|1|2 0");
        // Seven in a row are too many.
        RingVillage y = Telling.with("people 7;word 1 0 9;word 2 1 9;word 3 2 9;word 4 3 9;word 5 4 9;word 6 5 9;word 0 6 9;want 0 1 1 1;want 6 0 1 1;", "");
        T.asks(y, NONE, "find 0 NONE 0 0|1 0|1|2 0|1|10", "stands 0 NONE 0 0|1 0|1|2 false|true", "rest 0 NONE 0 0|1 0|1|2|6");
    }

    private static void promise18FindWithinRoom() {
        for (int p = 0; p < 6; p++) {
            int next = (p + 1) % 6;
            String less = "word " + next + " " + p + " 98;";
            RingVillage x = Telling.with(SIX + less + "want 0 1 99 1;want 0 1 98 1;", "owe " + p + " " + next + " 1;");
            T.asks(x, NONE, "find 0 NONE 0 0 0|1|2 0", "find 0 0 1 0|1 0|1|2 0");
            T.asks(x, 6, "find 0 NONE 0 1 0|1|2 0");
        }
    }

    private static void promise18FindNone() {
        RingVillage x = Telling.with("want 0 1 1 1;", "");
        T.asks(x, NONE, "find 0 0|NONE 0 0 0|1|2 0|1|10|11", "stands 0 0|NONE 0 0 0|1|2 false|true");
        RingVillage y = Telling.with("all 9;", "");
        T.asks(y, NONE, "find 0 0|NONE 0 0|-1 0|1|2 0|1|10", "stands 0 0|NONE 0 0|-1 0|1|2 false|true");
    }

    private static void promise18CheapAndFastAlike() {
        // By 2 and by 3 alike: the first by rows of numbers.
        RingVillage x = Telling.with(TWO_WAYS + "fee 2 5;fee 3 5;risk 2 5;risk 3 5;", "");
        T.asks(x, 2, "find 0 NONE 0 0 0|1|2 12");
        T.asks(x, 5, "find 0 NONE 0 0 0|1|2 1");
        RingVillage y = Telling.with(TWO_WAYS + "fee 2 5;fee 3 4;risk 2 4;risk 3 5;", "");
        T.asks(y, 2, "find 0 NONE 0 0 0|2 12");
        T.asks(y, 3, "find 0 NONE 0 0 1 12");
        RingVillage z = Telling.with(TWO_WAYS + "fee 2 4;fee 3 5;risk 2 5;risk 3 4;", "");
        T.asks(z, 2, "find 0 NONE 0 0 0|1 12");
        T.asks(z, 3, "find 0 NONE 0 0 2 12");
        // Straight back is the fewest; another one's fee or risk of 0 makes longer ones alike.
        RingVillage w = Telling.with(TWO_WAYS + "word 0 1 9;", "");
        T.asks(w, 2, "find 0 NONE 0 0 0|1|2 0");
        // By rows of numbers, not by who is last: 1 2 3 0 comes before 1 3 2 0.
        RingVillage v = Telling.with("all 9;word 0 1 0;word 0 2 0;word 0 3 0;people 6;word 0 4 9;word 0 5 0;word 4 1 0;want 0 1 9 1;", "");
        T.asks(v, 4, "find 0 NONE 0 0 0|1|2 0|13");
        T.asks(v, 2, "find 0 NONE 0 0 0|1|2 12");
    }

    private static void promise19Stands() {
        RingVillage x = Telling.with("people 2;all 9;want 0 1 1 1;", "");
        T.asks(x, 10000, "stands 0 NONE 0 0 0|1|2 false|true");
        RingVillage y = Telling.with("people 2;all 9;risk 0 99;risk 1 99;want 0 1 1 1;", "");
        T.asks(y, 1, "stands 0 NONE 0 0 0|1|2 false");
        T.asks(y, 10000, "stands 0 NONE 0 0 0|1|2 true");
        RingVillage z = Telling.with(SIX + "want 0 1 1 1;", "");
        T.asks(z, 1000000000000L, "stands 0 NONE 0 0 0|1|2 false|true");
        RingVillage w = Telling.with(SIX + "risk 0 99;risk 1 99;risk 2 99;risk 3 99;risk 4 99;risk 5 99;want 0 1 1 1;", "");
        T.asks(w, 1, "stands 0 NONE 0 0 0|1|2 false");
        T.asks(w, 1000000000000L, "stands 0 NONE 0 0 0|1|2 true");
        T.asks(w, NONE, "stands 0 NONE 0 0 -1|3|MIN|MAX false|true", "stands 0 NONE 0 -1|1|MIN|MAX 0 false|true");
        // A and B count: 90 of 100 and 80 of 100, and 50 of 100 of the third.
        RingVillage v = Telling.with("people 3;word 1 0 9;word 2 1 9;word 0 2 9;risk 0 10;risk 1 20;risk 2 50;want 0 1 1 1;", "");
        T.asks(v, 360000, "stands 0 NONE 0 0 0|1|2 false");
        T.asks(v, 1000000, "stands 0 NONE 0 0 0|1|2 true");
    }

    private static void promise20Bars() {
        StringBuilder village = new StringBuilder("people 9;all 5;");
        for (int p = 1; p < 9; p++) {
            village.append("word 0 ").append(p).append(" 4;");
        }
        RingVillage x = Telling.with(village + "want 0 1 5 1;want 0 1 4 1;want 1 0 5 1;want 8 0 6 1;", "");
        T.asks(x, 510, "bars 0 NONE 0 0");
        T.asks(x, NONE, "bars 0 NONE 0 1|2", "bars 0 NONE 0 4|7|-1|MIN|MAX");
        T.asks(x, 1, "bars 0 NONE 0 3");
        RingVillage y = Telling.with("people 2;word 0 1 98;want 0 1 98 1;want 0 1 99 1;", "owe 1 0 1;");
        T.asks(y, NONE, "bars 0 NONE 0 0");
        T.asks(y, 2, "bars 0 NONE 0 1", "bars 0 0 1 0");
        T.asks(Telling.with("all 9;", ""), NONE, "bars 0 NONE 0 0|-1|1");
    }

    private static void promise20BarsStepByStep() {
        // From 8 down to 0, and not on to 9's place; 8 steps.
        StringBuilder village = new StringBuilder("people 9;");
        for (int p = 8; p > 0; p--) {
            village.append("word ").append(p - 1).append(' ').append(p).append(" 7;");
        }
        RingVillage x = Telling.with(village + "want 0 8 7 1;want 0 7 7 1;want 8 4 7 1;want 4 5 8 1;", "owe 2 1 1;");
        T.asks(x, NONE, "bars 0 NONE 0 0|1", "bars 0 0 0 0|1");
        T.asks(x, 31, "bars 0 NONE 0 2");
        T.asks(x, 32, "bars 0 NONE 0 3");
        T.asks(x, 4 + 8 + 16 + 32 + 64 + 128 + 256, "bars 0 0 1 0");
        T.asks(x, 4 + 8 + 16, "bars 0 0 1 2");
    }

    private static void promise29Rest() {
        T.asks(Telling.with(TWO_WAYS, ""), 0, "rest 0 NONE 0 0 2");
        T.asks(Telling.with(TWO_WAYS + "fee 3 1;", ""), 1, "rest 0 NONE 0 0 2");
        T.asks(Telling.with(TWO_WAYS + "fee 3 98;", ""), 98, "rest 0 NONE 0 0 2");
        T.asks(Telling.with(TWO_WAYS + "fee 3 99;", ""), 99, "rest 0 NONE 0 0 2");
        T.asks(Telling.with(TWO_WAYS, ""), NONE, "rest 0 NONE 0 0 3");
        T.asks(Telling.with(TWO_WAYS + "fee 2 1;", ""), 0, "rest 0 NONE 0 0 3");
        T.asks(Telling.with(TWO_WAYS + "fee 2 99;", ""), 98, "rest 0 NONE 0 0 3");
        RingVillage x = Telling.with(TWO_WAYS + "fee 0 5;fee 1 5;fee 2 5;fee 3 5;", "owe 1 3 1;");
        T.asks(x, 99, "rest 0 NONE 0 0 0|1", "rest 0 0 1 0 2");
        T.asks(x, 5, "rest 0 NONE 0 0 2", "village 0 10|11|12|13");
        T.asks(x, 4, "rest 0 NONE 0 0 3");
        T.asks(x, NONE, "rest 0 0 1 0 3", "rest 0 NONE 0 0 4|-1|9|MIN|MAX", "rest 0 NONE 0 1|-1|7|MIN|MAX 0");
    }

    private static void promise29RestNone() {
        T.asks(Telling.with("people 2;want 0 1 1 1;", ""), NONE, "rest 0 NONE 0 0 0|1|2");
        T.asks(Telling.with("all 9;", ""), NONE, "rest 0 NONE 0 0|-1 0");
        // Straight back costs nothing and is the fewest: no fee brings another one in.
        T.asks(Telling.with(TWO_WAYS + "word 0 1 9;", ""), NONE, "rest 0 NONE 0 0 2|3");
        // The longer way costs 2 with him, as much as the shorter one: the fewest is taken.
        RingVillage x = Telling.with("people 5;word 1 0 9;word 2 1 9;word 0 2 9;word 3 1 9;word 4 3 9;word 0 4 9;fee 2 2;fee 4 1;want 0 1 9 1;", "");
        T.asks(x, 0, "rest 0 NONE 0 0 3");
        T.asks(x, 1, "rest 0 NONE 0 0 4");
        T.asks(x, 1, "rest 0 NONE 0 0 2");
    }

    private static void promise30Early() {
        RingVillage x = Telling.with("people 9;all 99;", "owe 8 0 99;owe 0 8 1;");
        T.asks(x, 2, "early 0 0 1 8 0 1|98|99", "early 0 0 2 0 8 1");
        T.asks(x, NONE, "early 0 0 1 8 0 0|-1|100|MIN|MAX", "early 0 0 2 0 8 2", "early 0 0 1 0 8 1", "early 0 0 0 8 0 1", "early 0 NONE 0 8 0 1",
            "early 0 0 1 8 8 1", "early 0 0 1 0 0 1", "early 0 0 1 9|-1|MIN|MAX 0 1", "early 0 0 1 8 9|-1|MIN|MAX 1");
        RingVillage y = Telling.with("people 2;all 99;", "owe 0 1 98;");
        T.asks(y, NONE, "early 0 0 1 0 1 1|98|99", "early 0 0 1 0 2 1");
        // Room is left for the debt itself, which is no way.
        RingVillage z = Telling.with("people 3;word 1 0 99;", "owe 0 1 1;");
        T.asks(z, NONE, "early 0 0 1 0 1 1");
    }

    private static void promise30EarlyWays() {
        // From 0 by 1 to 2, and by 3, 4 to 2; the debt itself is 0 to 2.
        RingVillage x = Telling.with("people 5;word 2 0 9;word 1 0 5;word 2 1 4;word 3 0 6;word 4 3 6;word 2 4 6;", "owe 0 2 9;owe 3 4 1;");
        T.asks(x, 2, "early 0 0 1|2 0 2 1|4");
        T.asks(x, 3, "early 0 0 1 0 2 5|6", "early 0 0 2 0 2 5");
        T.asks(x, NONE, "early 0 0 1 0 2 7|9|10", "early 0 0 2 0 2 6");
        // All eight others in a row.
        StringBuilder village = new StringBuilder("people 9;word 8 0 9;");
        for (int p = 0; p < 8; p++) {
            village.append("word ").append(p + 1).append(' ').append(p).append(" 9;");
        }
        RingVillage y = Telling.with(village.toString(), "owe 0 8 9;owe 6 7 8;");
        T.asks(y, 8, "early 0 0 1 0 8 1|9", "early 0 0 2 0 8 1");
        T.asks(y, NONE, "early 0 0 2 0 8 2");
    }

    private static void promise31Stranger() {
        int[] all = {0, 0, 8, 64, 400, 2080, 8800};
        RingVillage x = Telling.with("people 9;all 99;", "owe 8 0 1;");
        for (int m = 2; m <= 6; m++) {
            T.asks(x, all[m], "stranger 0 NONE 0 0|8 " + m + " 0|1|99", "stranger 0 0 1 0 " + m + " 98");
        }
        T.asks(x, 7, "stranger 0 0 1 0|8 2 99");
        T.asks(x, 8, "stranger 0 0 1 1 2 99");
        T.asks(x, NONE, "stranger 0 NONE 0 0 -1|0|1|7|MIN|MAX 1", "stranger 0 NONE 0 0 2 -1|100|MIN|MAX", "stranger 0 NONE 0 9|-1|MIN|MAX 2 1");
    }

    private static void promise31StrangerOfTwo() {
        RingVillage x = Telling.with("people 2;all 5;", "owe 0 1 5;");
        T.asks(x, 1, "stranger 0 NONE 0 0|1 2|3|4|5|6 0|1|5", "stranger 0 0 1 0|1 2|6 0");
        T.asks(x, 0, "stranger 0 NONE 0 0|1 2|6 6|99", "stranger 0 0 1 0|1 2|6 1");
        RingVillage y = Telling.with("people 3;all 5;", "");
        T.asks(y, 2, "stranger 0 NONE 0 0|1|2 2 0|5");
        T.asks(y, 4, "stranger 0 NONE 0 0|1|2 3|4|6 0|5");
        // One ring of six is found by 6 alone.
        RingVillage z = Telling.with(SIX, "");
        T.asks(z, 1, "stranger 0 NONE 0 0|3|5 6 1|99");
        T.asks(z, 0, "stranger 0 NONE 0 0|3|5 2|3|4|5 1|99");
    }

    private static void promise33One() {
        RingVillage x = Telling.with("", "");
        T.asks(x, 0, "one 0 0|NONE 0 0|1|2 0|1|10|13");
        T.asks(x, NONE, "one 0 NONE 0 -1|3|MIN|MAX 0", "one 0 NONE 0 0 -1|2|9|14|19|20|MIN|MAX");
        RingVillage y = Telling.with("people 9;all 1;want 0 1 2 9;", "");
        T.asks(y, 0, "one 0 NONE 0 0|1|2 0|1|10|18");
        T.asks(y, NONE, "one 0 NONE 0 0|1|2 19");
        RingVillage z = Telling.with("people 2;all 1;want 0 1 1 9;want 0 1 1 5;want 1 0 1 7;", "owe 0 1 1;");
        T.asks(z, 1, "one 0 NONE 0 0|1|2 0");
        T.asks(z, 9, "one 0 NONE 0 0|1|2 1");
        T.asks(z, 0, "one 0 0 1 0|1|2 0|1");
        T.asks(z, NONE, "one 0 NONE 0 0 12");
    }

    /** Seven rings more behind thirty. */
    private static void promise33OneFull() {
        RingVillage x = Telling.with("people 4;all 99;" + "want 2 3 14 99;".repeat(7), "ring 1 99 0 1;".repeat(30));
        T.asks(x, 127, "one 0 0 30 0|1|2 0");
        T.asks(x, 693, "one 0 0 30 0|1|2 1");
        T.asks(x, 30, "state 0 0 30 1");
        T.asks(x, 0, "gap 0 0 30");
        RingVillage y = Telling.with("people 2;all 99;" + "want 0 1 14 1;".repeat(7), "owe 0 1 1;owe 0 1 1;");
        T.asks(y, 127, "one 0 0 0|1 0|1|2 0");
        T.asks(y, 63, "one 0 0 2 0|1|2 0");
        T.asks(y, 6, "one 0 0 2 0|1|2 1");
    }

    private static void promise33OneEarns() {
        RingVillage x = Telling.with(SIX + "fee 0 99;fee 2 99;fee 3 1;fee 5 98;want 0 1 98 1;want 3 4 1 1;", "");
        T.asks(x, 3, "one 0 NONE 0 0|1|2 0");
        // 0 is A of the first ring and goes with the second; 3 the other way about; 2 and 5 go with both.
        T.asks(x, 99, "one 0 NONE 0 0|1|2 10");
        T.asks(x, 99 * 99, "one 0 NONE 0 0|1|2 12");
        T.asks(x, 98, "one 0 NONE 0 0|1|2 13");
        T.asks(x, 98 * 99, "one 0 NONE 0 0|1|2 15");
        T.asks(x, 0, "one 0 NONE 0 0|1|2 11|14");
        T.asks(x, NONE, "one 0 NONE 0 0|1|2 16");
        RingVillage y = Telling.with("people 3;word 1 0 99;word 2 1 99;word 0 2 99;fee 2 99;want 0 1 99 0;", "");
        T.asks(y, 9801, "one 0 NONE 0 0|1|2 12");
        T.asks(y, 1, "one 0 NONE 0 0|1|2 0");
        T.asks(y, 0, "one 0 NONE 0 0|1|2 1");
    }

    private static void promise40Take() {
        RingVillage x = Telling.with(SIX, "owe 2 3 1;");
        T.asks(x, 1, "take 0 NONE 0 6 12345|123450|501234 1|99", "take 0 0 1 6 12345|345012 98");
        T.asks(x, 0, "take 0 0 1 6 12345|345012 99", "take 0 NONE 0 6 543210 1", "take 0 NONE 0 5 1234 1", "take 0 NONE 0 2 1|10 1");
        T.asks(x, NONE, "take 0 NONE 0 6 12345 0|-1|100|MIN|MAX", "take 0 NONE 0 -1|0|1|7|MIN|MAX 12345 1", "take 0 NONE 0 0|1|7 0|1 1");
        RingVillage y = Telling.with("people 2;all 5;", "owe 0 1 1;");
        T.asks(y, 1, "take 0 NONE 0 2 1|10 1|5", "take 0 0 1 2 1|10 4");
        T.asks(y, 0, "take 0 NONE 0 2 1|10 6|99", "take 0 0 1 2 1|10 5");
    }

    private static void promise40TakeFigures() {
        RingVillage x = Telling.with("people 9;all 5;", "");
        T.asks(x, 1, "take 0 NONE 0 2 1|8|80|78|87|10 5", "take 0 NONE 0 3 12|812|801|102 5", "take 0 NONE 0 6 876543|12345|812345 5");
        T.asks(x, NONE, "take 0 NONE 0 2 0|9|90|89|98|99|11|88|100|101|123|1000000001|-1|-12|-10|MIN|MAX 1");
        T.asks(x, NONE, "take 0 NONE 0 3 1|10|100|112|121|211|129|192|912|1012|1234|-123 1");
        T.asks(x, NONE, "take 0 NONE 0 6 0|1234|123|123451|112345|123456789|1012345|8765432|987654|876549|999999|1000000|-876543|MIN|MAX 1");
        RingVillage y = Telling.with("people 8;all 5;", "");
        T.asks(y, 1, "take 0 NONE 0 2 7|70|67 5");
        T.asks(y, NONE, "take 0 NONE 0 2 8|80|78|87 5", "take 0 NONE 0 6 812345|123458 1");
    }
}
