/** Promises 18 to 20, 29 to 31, 33 and 40: rings. */
public final class RingTest {
    private static final int NONE = RingVillage.NONE;
    private static final Telling T = new Telling("RingTest");
    private static final String THREE_WAYS = "people 6;word 1 0 2;word 2 1 2;word 0 2 2;word 3 1 2;word 4 3 2;word 0 4 2;"
        + "word 5 1 2;word 0 5 2;want 0 1 2 7;";

    public static void main(String[] args) {
        shortCheapAndFast();
        ties();
        howLong();
        withinWhatIsOwed();
        whatBars();
        restOfAFee();
        paidEarly();
        throughAStranger();
        taking();
        oneByOne();
        noSuchStates();
        T.close();
    }

    private static void found(RingVillage x, int n, int want, int sort, int cost, int... who) {
        String at = "find(.., " + n + ", " + want + ", " + sort + ") ";
        T.due(at + "how many", x.find(0, n < 0 ? NONE : 0, Math.max(0, n), want, sort, 0), who.length == 0 ? NONE : who.length);
        T.due(at + "cost", x.find(0, n < 0 ? NONE : 0, Math.max(0, n), want, sort, 1), who.length == 0 ? NONE : cost);
        for (int i = 0; i < 7; i++) {
            int due = i < who.length ? who[i] : NONE;
            T.due(at + "who " + i, x.find(0, n < 0 ? NONE : 0, Math.max(0, n), want, sort, 10 + i), due);
        }
    }

    private static void shortCheapAndFast() {
        RingVillage x = Telling.with(THREE_WAYS + "fee 0 99;fee 1 99;fee 2 9;fee 3 2;fee 4 2;fee 5 9;"
            + "risk 0 30;risk 1 20;risk 2 50;risk 3 10;risk 4 10;risk 5 40;", "");
        found(x, NONE, 0, 0, 9, 0, 1, 2);
        found(x, NONE, 0, 1, 4, 0, 1, 3, 4);
        found(x, NONE, 0, 2, 4, 0, 1, 3, 4);
        T.due("stands, short", x.stands(0, NONE, 0, 0, 0, false), 70 * 80 * 50);
        T.due("parts, short", x.stands(0, NONE, 0, 0, 0, true), 1000000);
        T.due("stands, cheap", x.stands(0, NONE, 0, 0, 1, false), 70 * 80 * 90 * 90);
        T.due("parts, cheap", x.stands(0, NONE, 0, 0, 1, true), 100000000);
        T.due("stands, fast", x.stands(0, NONE, 0, 0, 2, false), 70 * 80 * 90 * 90);
        int[] noWhat = {2, 9, -1, 16, Integer.MAX_VALUE, Integer.MIN_VALUE};
        for (int what : noWhat) {
            T.due("find what " + what, x.find(0, NONE, 0, 0, 0, what), NONE);
        }
        T.due("find sort 3", x.find(0, NONE, 0, 0, 3, 0), NONE);
        T.due("find sort -1", x.find(0, NONE, 0, 0, -1, 0), NONE);
        T.due("find want 1", x.find(0, NONE, 0, 1, 0, 0), NONE);
        T.due("find want -1", x.find(0, NONE, 0, -1, 0, 0), NONE);
        T.due("stands sort 3", x.stands(0, NONE, 0, 0, 3, true), NONE);
        T.due("stands sort -1", x.stands(0, NONE, 0, 0, -1, true), NONE);
        T.due("stands want 1", x.stands(0, NONE, 0, 1, 0, true), NONE);
        T.due("stands want -1", x.stands(0, NONE, 0, -1, 0, false), NONE);
    }

    private static void ties() {
        RingVillage x = Telling.with(THREE_WAYS + "fee 2 9;fee 3 2;fee 4 2;fee 5 4;risk 2 50;risk 3 10;risk 4 10;risk 5 19;", "");
        found(x, NONE, 0, 1, 4, 0, 1, 5);
        found(x, NONE, 0, 2, 4, 0, 1, 5);
        RingVillage y = Telling.with(THREE_WAYS + "fee 2 4;fee 3 2;fee 4 2;fee 5 4;risk 2 19;risk 3 10;risk 4 10;risk 5 19;", "");
        found(y, NONE, 0, 1, 4, 0, 1, 2);
        found(y, NONE, 0, 2, 4, 0, 1, 2);
        RingVillage z = Telling.with("people 9;all 1;want 7 8 1 1;want 1 0 1 1;", "");
        found(z, NONE, 0, 0, 0, 7, 8);
        found(z, NONE, 1, 2, 0, 1, 0);
        RingVillage w = Telling.with("people 9;all 1;word 7 8 0;want 7 8 1 1;", "");
        found(w, NONE, 0, 0, 0, 7, 8, 0);
        RingVillage v = Telling.with(THREE_WAYS + "risk 2 18;risk 5 18;risk 3 9;risk 4 9;", "");
        // 91 of 100 twice is more than 82 of 100.
        found(v, NONE, 0, 2, 0, 0, 1, 3, 4);
    }

    private static void howLong() {
        String chain = "people 7;word 1 0 3;word 2 1 3;word 3 2 3;word 4 3 3;word 5 4 3;word 6 5 3;word 0 6 3;want 0 1 3 1;";
        RingVillage x = Telling.with(chain, "");
        found(x, NONE, 0, 0, 0);
        T.due("seven are too many, but nothing bars it", x.bars(0, NONE, 0, 0), NONE);
        T.due("by parts it can be had", x.much(0, NONE, 0, 0), 3);
        RingVillage y = Telling.with(chain + "word 0 5 3;risk 0 1;risk 1 1;risk 2 1;risk 3 1;risk 4 1;risk 5 1;", "");
        found(y, NONE, 0, 0, 0, 0, 1, 2, 3, 4, 5);
        T.due("six stand", y.stands(0, NONE, 0, 0, 0, false), 99L * 99 * 99 * 99 * 99 * 99);
        T.due("six, all parts", y.stands(0, NONE, 0, 0, 0, true), 1000000000000L);
        RingVillage z = Telling.with(chain + "word 0 5 2;", "");
        found(z, NONE, 0, 0, 0);
        RingVillage w = Telling.with("word 1 0 2;all 3;word 1 0 2;want 0 1 3 1;", "");
        found(w, NONE, 0, 0, 0);
    }

    private static void withinWhatIsOwed() {
        RingVillage x = Telling.with("people 3;all 5;want 0 1 3 1;", "owe 1 0 3;owe 0 1 2;owe 2 0 3;owe 0 1 1;");
        found(x, 0, 0, 0, 0, 0, 1);
        found(x, 1, 0, 0, 0, 0, 1, 2);
        found(x, 2, 0, 0, 0, 0, 1, 2);
        found(x, 3, 0, 0, 0);
        T.due("bars of what is owed", x.bars(0, 0, 3, 0), 1 << 1 | 1 << 2);
        found(x, 4, 0, 0, 0);
    }

    private static void whatBars() {
        RingVillage x = Telling.with("people 5;word 2 1 4;word 3 2 3;word 1 3 9;word 4 0 9;want 0 1 3 1;want 0 1 4 1;want 3 4 1 1;want 4 1 9 1;", "");
        T.due("from B on", x.bars(0, NONE, 0, 0), 1 << 1 | 1 << 2 | 1 << 3);
        T.due("as much as n", x.bars(0, NONE, 0, 1), 1 << 1 | 1 << 2);
        T.due("B alone", x.bars(0, NONE, 0, 2), 1 << 4);
        T.due("B alone", x.bars(0, NONE, 0, 3), 1 << 1);
        T.due("no such want", x.bars(0, NONE, 0, 4), NONE);
        T.due("no such want", x.bars(0, NONE, 0, -1), NONE);
        RingVillage y = Telling.with("word 0 1 3;want 0 1 3 1;", "");
        T.due("A is among them, though he has no room to B", y.bars(0, NONE, 0, 0), NONE);
    }

    private static void restOfAFee() {
        RingVillage x = Telling.with(THREE_WAYS + "fee 2 9;fee 3 2;fee 4 5;fee 5 9;", "");
        T.due("2 is the first of the fewest: even at the cost of the others", x.rest(0, NONE, 0, 0, 2), 7);
        T.due("5 is behind 2, but both are behind none at 9", x.rest(0, NONE, 0, 0, 5), 7);
        T.due("3: with 4's fee, below 9", x.rest(0, NONE, 0, 0, 3), 3);
        T.due("4: with 3's fee, below 9", x.rest(0, NONE, 0, 0, 4), 6);
        T.due("A is in each", x.rest(0, NONE, 0, 0, 0), 99);
        T.due("B is in each", x.rest(0, NONE, 0, 0, 1), 99);
        T.due("none of people", x.rest(0, NONE, 0, 0, 6), NONE);
        T.due("none of people", x.rest(0, NONE, 0, 0, -1), NONE);
        T.due("no such want", x.rest(0, NONE, 0, 1, 0), NONE);
        RingVillage y = Telling.with(THREE_WAYS, "owe 0 1 1;");
        T.due("5 is behind 2", y.rest(0, NONE, 0, 0, 5), NONE);
        T.due("2 at no fee", y.rest(0, NONE, 0, 0, 2), 0);
        T.due("no ring", y.rest(0, 0, 1, 0, 0), NONE);
        T.due("his fee is as before", y.village(0, 12), 0);
        RingVillage z = Telling.with("word 1 0 1;word 2 1 1;word 0 2 1;want 0 1 1 1;fee 2 50;", "");
        T.due("the only ring", z.rest(0, NONE, 0, 0, 2), 99);
        T.due("in none", z.rest(0, NONE, 0, 0, 3), NONE);
    }

    private static void paidEarly() {
        RingVillage x = Telling.with("people 5;word 1 0 9;word 2 0 3;word 1 2 3;word 3 0 5;word 4 3 5;word 1 4 5;", "owe 0 1 6;owe 2 1 1;");
        T.due("by two", x.early(0, 0, 1, 0, 1, 3), 2);
        T.due("by three", x.early(0, 0, 1, 0, 1, 4), 3);
        T.due("by three", x.early(0, 0, 1, 0, 1, 5), 3);
        T.due("by none", x.early(0, 0, 1, 0, 1, 6), NONE);
        T.due("room that is less", x.early(0, 0, 2, 0, 1, 3), 3);
        T.due("he does not owe so much", x.early(0, 0, 1, 0, 1, 7), NONE);
        T.due("he does not owe", x.early(0, NONE, 0, 0, 1, 1), NONE);
        T.due("the other does not owe", x.early(0, 0, 1, 1, 0, 1), NONE);
        T.due("oneself", x.early(0, 0, 1, 0, 0, 1), NONE);
        T.due("much 0", x.early(0, 0, 1, 0, 1, 0), NONE);
        T.due("much 99", Telling.with("all 99;", "owe 0 1 99;").early(0, 0, 1, 0, 1, 99), 2);
        T.due("much 100", x.early(0, 0, 1, 0, 1, 100), NONE);
        T.due("much -1", x.early(0, 0, 1, 0, 1, -1), NONE);
        T.due("none of people", x.early(0, 0, 1, 0, 5, 1), NONE);
        T.due("none of people", x.early(0, 0, 1, -1, 1, 1), NONE);
        RingVillage y = Telling.with("people 2;all 9;", "owe 0 1 3;");
        T.due("the debt itself is not a way", y.early(0, 0, 1, 0, 1, 3), NONE);
        RingVillage z = Telling.with("people 9;word 1 0 9;word 2 0 1;word 3 2 1;word 4 3 1;word 5 4 1;word 6 5 1;word 7 6 1;word 8 7 1;word 1 8 1;", "owe 0 1 9;");
        T.due("by eight", z.early(0, 0, 1, 0, 1, 1), 8);
    }

    private static void throughAStranger() {
        RingVillage x = Telling.with("people 9;all 4;", "");
        int[] full = {0, 0, 8, 64, 400, 2080, 8800};
        for (int m = 2; m <= 6; m++) {
            T.due("stranger by " + m, x.stranger(0, NONE, 0, 3, m, 4), full[m]);
            T.due("stranger by " + m + " and 0", x.stranger(0, NONE, 0, 8, m, 0), full[m]);
            T.due("stranger by " + m + " and 5", x.stranger(0, NONE, 0, 3, m, 5), 0);
        }
        T.due("stranger by 1", x.stranger(0, NONE, 0, 3, 1, 4), NONE);
        T.due("stranger by 7", x.stranger(0, NONE, 0, 3, 7, 4), NONE);
        T.due("stranger and -1", x.stranger(0, NONE, 0, 3, 6, -1), NONE);
        T.due("stranger and 99", x.stranger(0, NONE, 0, 3, 6, 99), 0);
        T.due("stranger and 100", x.stranger(0, NONE, 0, 3, 6, 100), NONE);
        T.due("stranger of none", x.stranger(0, NONE, 0, 9, 6, 1), NONE);
        T.due("stranger of none", x.stranger(0, NONE, 0, -1, 6, 1), NONE);
        RingVillage y = Telling.with("people 3;all 4;", "owe 0 1 1;");
        T.due("both ways about", y.stranger(0, NONE, 0, 2, 3, 4), 4);
        T.due("one way about", y.stranger(0, 0, 1, 2, 3, 4), 3);
        T.due("he who owes", y.stranger(0, 0, 1, 0, 3, 4), 2);
        RingVillage z = Telling.with("people 2;", "");
        T.due("no room is room of 0", z.stranger(0, NONE, 0, 0, 6, 0), 1);
        T.due("no room", z.stranger(0, NONE, 0, 0, 6, 1), 0);
    }

    private static void taking() {
        RingVillage x = Telling.with("people 8;all 4;word 0 5 3;", "owe 1 2 2;");
        T.due("six", x.take(0, NONE, 0, 6, 12345, 3), 1);
        T.due("six, the last has less", x.take(0, NONE, 0, 6, 12345, 4), 0);
        T.due("six, the other way about", x.take(0, NONE, 0, 6, 543210, 4), 1);
        T.due("two", x.take(0, NONE, 0, 2, 12, 4), 1);
        T.due("two, one owes", x.take(0, 0, 1, 2, 12, 4), 0);
        T.due("two, one owes", x.take(0, 0, 1, 2, 12, 2), 1);
        T.due("zeros in front", x.take(0, NONE, 0, 2, 7, 1), 1);
        T.due("two zeros in front are one", x.take(0, NONE, 0, 3, 7, 1), NONE);
        T.due("more figures", x.take(0, NONE, 0, 2, 123, 1), NONE);
        T.due("more figures", x.take(0, NONE, 0, 6, 1234567, 1), NONE);
        T.due("more figures", x.take(0, NONE, 0, 2, 1000000012, 1), NONE);
        T.due("below 0", x.take(0, NONE, 0, 2, -12, 1), NONE);
        T.due("below 0", x.take(0, NONE, 0, 2, Integer.MIN_VALUE, 1), NONE);
        T.due("two are one", x.take(0, NONE, 0, 3, 121, 1), NONE);
        T.due("none of people", x.take(0, NONE, 0, 2, 18, 1), NONE);
        T.due("none of people", x.take(0, NONE, 0, 2, 90, 1), NONE);
        T.due("many 1", x.take(0, NONE, 0, 1, 1, 1), NONE);
        T.due("many 7", x.take(0, NONE, 0, 7, 123456, 1), NONE);
        T.due("much 0", x.take(0, NONE, 0, 2, 12, 0), NONE);
        T.due("much 99", x.take(0, NONE, 0, 2, 12, 99), 0);
        T.due("much 100", x.take(0, NONE, 0, 2, 12, 100), NONE);
    }

    private static void oneByOne() {
        RingVillage x = Telling.with(THREE_WAYS + "want 0 1 1 5;want 1 5 1 3;want 2 3 1 9;word 1 0 3;word 0 1 0;word 5 1 3;"
            + "fee 2 9;fee 3 2;fee 4 2;fee 5 7;fee 0 50;risk 2 90;risk 3 10;risk 4 10;risk 5 40;", "month;");
        // SHORT: 0 1 2 by 2; then 0 1 5 by 1; then 1 5 0, whose 0 has no more room to 1: none; 2 3: none.
        T.due("short: which", x.one(0, NONE, 0, 0, 0), 3);
        T.due("short: worth", x.one(0, NONE, 0, 0, 1), 12);
        T.due("short: 2 earns", x.one(0, NONE, 0, 0, 12), 18);
        T.due("short: 5 earns", x.one(0, NONE, 0, 0, 15), 7);
        T.due("short: A earns nothing", x.one(0, NONE, 0, 0, 10), 0);
        // CHEAP: 0 1 3 4 by 2; then 0 1 5 by 1.
        T.due("cheap: which", x.one(0, NONE, 0, 1, 0), 3);
        T.due("cheap: 3 earns", x.one(0, NONE, 0, 1, 13), 4);
        T.due("cheap: 5 earns", x.one(0, NONE, 0, 1, 15), 7);
        T.due("cheap: 2 earns", x.one(0, NONE, 0, 1, 12), 0);
        // FAST: 0 1 3 4 by 2, then 0 1 5 by 1.
        T.due("fast: 4 earns", x.one(0, NONE, 0, 2, 14), 4);
        T.due("fast: 5 earns", x.one(0, 0, 1, 2, 15), 7);
        T.due("sort 3", x.one(0, NONE, 0, 3, 0), NONE);
        T.due("sort -1", x.one(0, NONE, 0, -1, 0), NONE);
        int[] noWhat = {2, 9, 16, 19, -1, Integer.MIN_VALUE, Integer.MAX_VALUE};
        for (int what : noWhat) {
            T.due("what " + what, x.one(0, NONE, 0, 0, what), NONE);
        }
        T.due("nothing is begun", x.state(0, NONE, 0, 3), 0);
        RingVillage y = Telling.with("people 3;all 2;want 0 1 2 1;want 1 2 2 2;want 1 0 1 4;", "");
        // 0 1 by 2, then 1 2 by 2; then 1 has no room to 0.
        T.due("each in the state by then", y.one(0, NONE, 0, 0, 0), 3);
        T.due("no wants", Telling.with("", "").one(0, NONE, 0, 0, 0), 0);
    }

    private static void noSuchStates() {
        RingVillage x = Telling.with("all 5;want 0 1 1 1;", "owe 0 1 2;");
        int[][] states = {{1, 0, 0}, {-1, 0, 0}, {0, 1, 0}, {0, -2, 0}, {0, 0, 2}, {0, 0, -1}, {0, NONE, 1}, {0, NONE, -1}};
        for (int[] s : states) {
            String at = "(" + s[0] + ", " + s[1] + ", " + s[2] + ")";
            T.due("find" + at, x.find(s[0], s[1], s[2], 0, 0, 0), NONE);
            T.due("stands" + at, x.stands(s[0], s[1], s[2], 0, 0, true), NONE);
            T.due("bars" + at, x.bars(s[0], s[1], s[2], 0), NONE);
            T.due("rest" + at, x.rest(s[0], s[1], s[2], 0, 0), NONE);
            T.due("early" + at, x.early(s[0], s[1], s[2], 0, 1, 1), NONE);
            T.due("stranger" + at, x.stranger(s[0], s[1], s[2], 0, 2, 1), NONE);
            T.due("take" + at, x.take(s[0], s[1], s[2], 2, 12, 1), NONE);
            T.due("one" + at, x.one(s[0], s[1], s[2], 0, 0), NONE);
        }
    }
}
