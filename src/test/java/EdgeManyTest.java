/** Terms 4 and 5 and promises 21 to 27, 34 to 36, 38 and 39 at their edges: too small, too large, empty, full. */
public final class EdgeManyTest {
    private static final int NONE = RingVillage.NONE;
    private static final int YES = 1;
    private static final int NO = 0;
    private static final Telling T = new Telling("EdgeManyTest");
    private static final String SEVEN = "want 0 1 1 99;want 1 2 1 99;want 2 3 1 99;want 3 0 1 99;want 0 2 1 99;want 2 1 1 99;want 1 3 1 99;";

    public static void main(String[] args) {
        promise21Much();
        promise22HadWhichWants();
        promise22HadWithinRoom();
        promise22HadOfTheSameTwo();
        promise22HadWithSlack();
        promise23Most();
        promise23MostOfSeveral();
        promise24Shilling();
        promise25Worth();
        promise26Need();
        promise26NeedAboveAll();
        promise27Least();
        promise34Gap();
        promise35Tight();
        promise35TightAbove99();
        promise36Opens();
        promise38Lent();
        promise39Weak();
        nothingStaysOfAnotherVillage();
        T.close();
    }

    private static void promise21Much() {
        RingVillage x = Telling.with("people 2;word 1 0 99;word 0 1 98;want 0 1 99 1;want 0 1 97 1;want 0 1 1 1;want 1 0 99 1;", "owe 0 1 2;owe 1 0 98;");
        T.asks(x, 98, "much 0 NONE 0 0|3");
        T.asks(x, 97, "much 0 NONE 0 1", "much 0 0 1 0|1|3");
        T.asks(x, 1, "much 0 NONE 0 2", "much 0 0 1 2");
        T.asks(x, 0, "much 0 0 2 0|1|2|3");
        T.asks(x, NONE, "much 0 NONE 0 4|7|-1|MIN|MAX");
        T.asks(Telling.with("want 0 1 1 1;", ""), 0, "much 0 NONE 0 0");
        T.asks(Telling.with("all 9;", ""), NONE, "much 0 NONE 0 0|-1");
        // 8 ways of 12 each are less than 99; 9 people.
        T.asks(Telling.with("people 9;all 12;word 1 0 99;want 0 1 99 1;", ""), 96, "much 0 NONE 0 0");
        T.asks(Telling.with("people 9;all 13;word 1 0 99;want 0 1 99 1;", ""), 99, "much 0 NONE 0 0");
        // To B there is one way only: his own word.
        T.asks(Telling.with("people 9;all 13;word 1 0 0;want 0 1 99 1;", ""), 0, "much 0 NONE 0 0");
    }

    private static void promise22HadWhichWants() {
        RingVillage x = Telling.with("all 9;" + SEVEN, "");
        T.asks(x, YES, "had 0 0|NONE 0 0|1|64|126|127 false|true");
        T.asks(x, NO, "had 0 NONE 0 128|129|255|256|-1|-128|MIN|MAX false|true");
        RingVillage y = Telling.with("all 9;want 0 1 1 1;want 0 1 10 1;", "");
        T.asks(y, YES, "had 0 NONE 0 0|1 false|true");
        T.asks(y, NO, "had 0 NONE 0 2|3|4|5|8|-1|MIN|MAX false|true");
        RingVillage z = Telling.with("", "");
        T.asks(z, YES, "had 0 0|NONE 0 0 false|true");
        T.asks(z, NO, "had 0 NONE 0 1|2|128|-1|MIN|MAX false|true");
    }

    private static void promise22HadWithinRoom() {
        RingVillage x = Telling.with("people 2;all 99;want 0 1 99 1;want 1 0 99 1;", "owe 0 1 1;owe 1 0 1;pay 0 1 1;");
        T.asks(x, YES, "had 0 0 0 1|2|3 false");
        T.asks(x, NO, "had 0 0 1|2|3 1|2|3 false");
        // More than is wanted may be owed: 0 to 1 is 2 for the sake of 1 to 2.
        RingVillage y = Telling.with("people 3;word 1 0 2;word 2 1 2;word 0 2 2;want 0 1 1 1;want 1 2 2 1;", "owe 0 1 1;");
        T.asks(y, YES, "had 0 0 0 1|2|3 false", "had 0 0 1 0|1 false");
        T.asks(y, NO, "had 0 0 1 2|3 false");
        // Nine people in one ring: longer than six, but debts that go round.
        StringBuilder village = new StringBuilder("people 9;");
        for (int p = 0; p < 9; p++) {
            village.append("word ").append((p + 1) % 9).append(' ').append(p).append(" 99;");
        }
        RingVillage z = Telling.with(village + "want 0 1 99 1;want 8 0 99 1;want 1 0 1 1;", "owe 4 5 1;");
        T.asks(z, YES, "had 0 0 0 1|2|3 false");
        T.asks(z, NO, "had 0 0 0 4|7 false", "had 0 0 1 1|2|3 false");
    }

    private static void promise22HadOfTheSameTwo() {
        RingVillage x = Telling.with("people 2;all 98;" + "want 0 1 14 1;".repeat(7), "owe 0 1 1;");
        T.asks(x, YES, "had 0 0 0 127 false|true", "had 0 0 1 63|126 false|true");
        T.asks(x, NO, "had 0 0 1 127 false|true");
        // The other way about is another debt.
        RingVillage y = Telling.with("people 2;all 5;want 0 1 5 1;want 1 0 5 1;want 0 1 1 1;", "");
        T.asks(y, YES, "had 0 NONE 0 3|6 false");
        T.asks(y, NO, "had 0 NONE 0 5|7 false");
    }

    private static void promise22HadWithSlack() {
        String wants = "want 0 1 9 1;want 0 1 10 1;want 1 0 1 1;";
        RingVillage x = Telling.with("people 2;word 1 0 99;slack 9;" + wants, "owe 0 1 90;owe 0 1 1;");
        T.asks(x, YES, "had 0 0 0 0|1 true", "had 0 0 1 1 true", "had 0 0 0 0 false");
        T.asks(x, NO, "had 0 0 0 2|3|4|5|6|7 true", "had 0 0 0 1|2|3 false", "had 0 0 2 1 true");
        RingVillage y = Telling.with("people 2;word 1 0 99;slack 8;" + wants, "");
        T.asks(y, NO, "had 0 NONE 0 1|2 true");
        RingVillage z = Telling.with("people 2;word 1 0 99;slack 0;want 0 1 1 1;", "");
        T.asks(z, NO, "had 0 NONE 0 1 false|true");
        // 2 is owed 9, and 10: each of the others is within, but he is not.
        RingVillage w = Telling.with("people 3;word 2 0 9;word 2 1 9;slack 9;want 0 2 5 1;want 1 2 4 1;want 1 2 1 1;", "");
        T.asks(w, YES, "had 0 NONE 0 3|5|6 true");
        T.asks(w, NO, "had 0 NONE 0 7 true", "had 0 NONE 0 1|2|3 false");
        // 2 owes 9, and 10.
        RingVillage v = Telling.with("people 3;word 0 2 9;word 1 2 9;slack 9;want 2 0 5 1;want 2 1 4 1;want 2 1 1 1;", "");
        T.asks(v, YES, "had 0 NONE 0 3|5|6 true");
        T.asks(v, NO, "had 0 NONE 0 7 true");
    }

    private static void promise23Most() {
        T.asks(Telling.with("", ""), 0, "most 0 0|NONE 0 false|true false|true", "shilling 0 0|NONE 0");
        RingVillage x = Telling.with("all 9;" + SEVEN, "");
        T.asks(x, 127, "most 0 NONE 0 false|true false");
        T.asks(x, 693, "most 0 NONE 0 false|true true");
        T.asks(Telling.with(SEVEN, ""), 0, "most 0 NONE 0 false|true false|true");
        RingVillage y = Telling.with("people 2;word 1 0 9;slack 1;want 0 1 1 5;", "owe 0 1 9;");
        T.asks(y, 0, "most 0 NONE 0 false false|true", "most 0 0 1 true false|true");
        T.asks(y, 1, "most 0 NONE 0 true false");
        T.asks(y, 5, "most 0 NONE 0 true true");
    }

    private static void promise23MostOfSeveral() {
        String two = "people 2;all 6;";
        // The first alone is worth as much as the other two together.
        RingVillage x = Telling.with(two + "want 0 1 3 2;want 0 1 3 3;want 0 1 6 5;", "");
        T.asks(x, 4, "most 0 NONE 0 false false");
        T.asks(x, 5, "most 0 NONE 0 false true");
        // The last alone is worth less by one.
        RingVillage y = Telling.with(two + "want 0 1 3 2;want 0 1 3 3;want 0 1 6 4;", "");
        T.asks(y, 3, "most 0 NONE 0 false false");
        // Two and two alike: the least number.
        RingVillage z = Telling.with(two + "want 0 1 3 2;want 0 1 3 3;want 0 1 3 3;want 0 1 3 2;", "");
        T.asks(z, 6, "most 0 NONE 0 false false");
        RingVillage w = Telling.with(two + "want 0 1 3 2;want 0 1 3 2;want 0 1 3 2;", "");
        T.asks(w, 3, "most 0 NONE 0 false false");
        T.asks(w, 4, "most 0 NONE 0 false true");
        // What is worth 0 is left out, whether it could be had or not.
        RingVillage v = Telling.with(two + "want 0 1 1 0;want 0 1 1 1;want 0 1 1 0;", "");
        T.asks(v, 2, "most 0 NONE 0 false|true false");
        T.asks(v, 1, "most 0 NONE 0 false|true true");
    }

    private static void promise24Shilling() {
        String wants = "want 0 1 1 99;want 2 3 1 99;want 4 5 1 99;want 6 7 1 99;want 0 3 1 99;want 2 1 1 99;want 4 7 1 99;";
        String words = "people 8;word 1 0 1;word 3 2 1;word 5 4 1;word 7 6 1;word 3 0 1;word 1 2 1;word 7 4 1;";
        T.asks(Telling.with(words + wants, ""), 0, "shilling 0 NONE 0");
        T.asks(Telling.with(words + wants + "slack 1;", ""), 396, "shilling 0 NONE 0");
        T.asks(Telling.with(words + wants + "slack 2;", ""), 693, "shilling 0 NONE 0");
        T.asks(Telling.with(words + wants + "slack 9;", ""), 693, "shilling 0 NONE 0");
        T.asks(Telling.with("all 9;slack 9;" + SEVEN, ""), 0, "shilling 0 NONE 0");
        RingVillage x = Telling.with("people 2;all 9;slack 9;want 0 1 9 7;", "owe 1 0 1;owe 0 1 1;");
        T.asks(x, 0, "shilling 0 0 0", "shilling 0 0 2");
        T.asks(x, 7, "shilling 0 0 1");
    }

    private static void promise25Worth() {
        RingVillage x = Telling.with("people 9;word 8 0 9;word 0 8 5;word 7 8 4;word 0 7 4;slack 9;want 0 8 9 99;", "owe 8 7 1;");
        T.asks(x, 99, "worth 0 NONE 0 0|7|8");
        T.asks(x, 0, "worth 0 NONE 0 1|6", "worth 0 0 1 0|7|8");
        T.asks(x, NONE, "worth 0 NONE 0 9|-1|MIN|MAX");
        RingVillage y = Telling.with("people 2;all 9;" + "want 0 1 1 99;".repeat(7), "");
        T.asks(y, 693, "worth 0 NONE 0 0|1");
        T.asks(y, NONE, "worth 0 NONE 0 2");
        T.asks(Telling.with("", ""), 0, "worth 0 NONE 0 0|3");
        // Without 2, the second is had in the place of the first.
        RingVillage z = Telling.with("people 3;word 1 0 5;word 2 1 5;word 0 2 5;word 0 1 3;want 0 1 5 9;want 0 1 3 7;", "");
        T.asks(z, 2, "worth 0 NONE 0 2");
        T.asks(z, 9, "worth 0 NONE 0 0|1");
    }

    private static void promise26Need() {
        RingVillage x = Telling.with("all 9;" + SEVEN, "");
        T.asks(x, 0, "need 0 0|NONE 0 0|1|64|127");
        T.asks(x, NONE, "need 0 NONE 0 128|255|-1|MIN|MAX");
        RingVillage y = Telling.with("", "");
        T.asks(y, 0, "need 0 0|NONE 0 0");
        T.asks(y, NONE, "need 0 NONE 0 1|-1|128|MIN|MAX");
        RingVillage z = Telling.with("people 2;all 5;slack 9;want 0 1 5 0;want 0 1 6 0;want 1 0 6 0;", "owe 0 1 1;owe 1 0 5;");
        T.asks(z, 0, "need 0 0 0 1");
        T.asks(z, 2, "need 0 0 0 2|4|6");
        T.asks(z, 12, "need 0 0 0 3|7");
        T.asks(z, 1, "need 0 0 1 1");
        T.asks(z, 6, "need 0 0 2 1");
        T.asks(z, NONE, "need 0 0 0 8|-1");
    }

    private static void promise26NeedAboveAll() {
        T.asks(Telling.with("people 2;want 0 1 1 0;", ""), 2, "need 0 NONE 0 1");
        T.asks(Telling.with("people 2;want 0 1 99 0;want 1 0 99 0;", ""), 198, "need 0 NONE 0 1|2|3");
        T.asks(Telling.with("people 9;" + "want 8 7 99 0;".repeat(7), ""), 1386, "need 0 NONE 0 127");
        // What 8 owes lacks 594; 7 gives 693 back by eight ways of 99 each, or of 86 each.
        T.asks(Telling.with("people 9;all 99;" + "want 8 7 99 0;".repeat(7), ""), 594, "need 0 NONE 0 127");
        T.asks(Telling.with("people 9;all 86;" + "want 8 7 99 0;".repeat(7), ""), 693 - 86 + 693 - 8 * 86, "need 0 NONE 0 127");
        // A ring of wants needs its own debts only.
        T.asks(Telling.with("people 3;want 0 1 5 0;want 1 2 5 0;want 2 0 5 0;", ""), 15, "need 0 NONE 0 7");
        T.asks(Telling.with("people 3;want 0 1 5 0;want 1 2 5 0;want 2 0 5 0;", ""), 15, "need 0 NONE 0 3");
    }

    private static void promise27Least() {
        T.asks(Telling.with("", ""), 0, "least 0");
        T.asks(Telling.with("want 0 1 1 0;", ""), 1, "least 0");
        T.asks(Telling.with("people 2;want 0 1 98 0;want 1 0 1 0;", ""), 98, "least 0");
        T.asks(Telling.with("people 2;want 0 1 98 0;want 0 1 1 0;", ""), 99, "least 0");
        T.asks(Telling.with("people 2;all 99;want 0 1 99 0;want 0 1 1 0;", ""), NONE, "least 0");
        T.asks(Telling.with("people 9;all 99;want 0 1 99 0;want 0 1 1 0;", ""), NONE, "least 0");
        T.asks(Telling.with("people 2;slack 9;want 0 1 5 0;", "owe 0 1 1;"), 5, "least 0");
        // 1 is owed 27 by three and has room to the three only.
        T.asks(Telling.with("want 0 1 9 0;want 2 1 9 0;want 3 1 9 0;", ""), 9, "least 0");
        RingVillage x = Telling.with("people 9;" + "want 0 1 1 0;".repeat(7), "");
        T.asks(x, 7, "least 0");
        T.asks(x, NONE, "least 1|-1|MIN|MAX");
    }

    private static void promise34Gap() {
        T.asks(Telling.with("", ""), 0, "gap 0 0|NONE 0");
        T.asks(Telling.with("all 9;" + SEVEN, ""), 0, "gap 0 NONE 0");
        T.asks(Telling.with(SEVEN, ""), 0, "gap 0 NONE 0");
        // One by one none is had, for seven in a row are no ring; at once all seven are.
        StringBuilder village = new StringBuilder("people 7;");
        for (int p = 0; p < 7; p++) {
            int next = (p + 1) % 7;
            village.append("word ").append(next).append(' ').append(p).append(" 1;want ").append(p).append(' ').append(next).append(" 1 99;");
        }
        RingVillage x = Telling.with(village + "slack 9;", "owe 0 1 1;");
        T.asks(x, 693, "gap 0 0|NONE 0");
        T.asks(x, 0, "gap 0 0 1", "one 0 NONE 0 0 1");
        // SLACK is not asked.
        T.asks(Telling.with("people 2;word 1 0 1;slack 1;want 0 1 1 9;", ""), 0, "gap 0 NONE 0");
        // By SHORT, which goes back by 2 and leaves no room from 2 to 0 for the second; by 3 it would be had too.
        RingVillage y = Telling.with("word 1 0 1;word 2 1 1;word 0 2 1;word 3 1 1;word 0 3 1;word 2 0 1;fee 2 5;risk 2 5;want 0 1 1 1;want 2 0 1 7;", "");
        T.asks(y, 7, "gap 0 NONE 0");
        T.asks(y, 1, "one 0 NONE 0 0 1");
        T.asks(y, 8, "one 0 NONE 0 1|2 1", "most 0 NONE 0 false true");
    }

    private static void promise35Tight() {
        RingVillage x = Telling.with("people 9;word 8 0 1;slack 9;want 0 8 1 99;", "owe 0 8 1;");
        T.asks(x, 99, "tight 0 NONE 0 8 0");
        T.asks(x, 0, "tight 0 NONE 0 0 8", "tight 0 NONE 0 8 7", "tight 0 NONE 0 7 0", "tight 0 0 1 8 0", "tight 0 0 1 0 8");
        T.asks(x, NONE, "tight 0 NONE 0 0 0|9|-1|MIN|MAX", "tight 0 NONE 0 9|-1|MIN|MAX 0|9", "tight 0 NONE 0 8 8");
        // Two lack, two ways about: one more room helps nothing.
        T.asks(Telling.with("people 2;want 0 1 1 99;", ""), 0, "tight 0 NONE 0 0 1", "tight 0 NONE 0 1 0");
        T.asks(Telling.with("people 2;", ""), 0, "tight 0 NONE 0 0 1", "tight 0 NONE 0 1 0");
        // One more lets another set be had, which is worth 3 more.
        RingVillage y = Telling.with("people 2;all 5;word 0 1 4;want 0 1 4 5;want 0 1 5 8;", "");
        T.asks(y, 3, "tight 0 NONE 0 1 0");
        T.asks(y, 0, "tight 0 NONE 0 0 1");
        T.asks(y, NONE, "tight 0 NONE 0 0 2", "tight 0 NONE 0 1 1");
        // One more lets either be had: the one with more WORTH counts, whichever comes first.
        T.asks(Telling.with("people 2;all 5;word 0 1 4;want 0 1 5 8;want 0 1 5 6;", ""), 8, "tight 0 NONE 0 1 0");
        T.asks(Telling.with("people 2;all 5;word 0 1 4;want 0 1 5 6;want 0 1 5 8;", ""), 8, "tight 0 NONE 0 1 0");
    }

    private static void promise35TightAbove99() {
        RingVillage x = Telling.with("people 3;all 99;want 0 1 99 5;want 0 1 1 3;", "");
        T.asks(x, 3, "tight 0 NONE 0 0 1");
        T.asks(x, 0, "tight 0 NONE 0 1 0|2", "tight 0 NONE 0 2 0");
        T.asks(x, 0, "opens 0 NONE 0 false");
        T.asks(x, 1, "opens 0 NONE 0 true");
        T.asks(x, 5, "most 0 NONE 0 false true");
        T.asks(x, 99, "room 0 NONE 0 0 1");
    }

    private static void promise36Opens() {
        T.asks(Telling.with("", ""), NONE, "opens 0 0|NONE 0 false|true");
        T.asks(Telling.with("all 9;" + SEVEN, ""), NONE, "opens 0 NONE 0 false|true");
        T.asks(Telling.with("people 2;want 0 1 1 99;", ""), NONE, "opens 0 NONE 0 false|true");
        T.asks(Telling.with("people 2;word 1 0 1;want 0 1 1 0;", ""), NONE, "opens 0 NONE 0 false|true");
        RingVillage x = Telling.with("people 9;word 7 8 1;want 8 7 1 1;", "owe 8 7 1;");
        T.asks(x, 7, "opens 0 NONE 0 false");
        T.asks(x, 8, "opens 0 NONE 0 true");
        T.asks(x, NONE, "opens 0 0 1 false|true");
        // 0 to 1 and 2 to 3 open as much: the least A; 3 to 2 opens more: the greatest.
        RingVillage y = Telling.with("word 0 1 1;word 3 2 1;want 1 0 1 5;want 2 3 1 5;", "");
        T.asks(y, 0, "opens 0 NONE 0 false");
        T.asks(y, 1, "opens 0 NONE 0 true");
        RingVillage z = Telling.with("word 0 1 1;word 3 2 1;want 1 0 1 5;want 2 3 1 6;", "");
        T.asks(z, 3, "opens 0 NONE 0 false");
        T.asks(z, 2, "opens 0 NONE 0 true");
        // From 1 it goes on to 0 by 2, by 3 or straight: the least B is 0; where 0 to 1 lacks too, only that opens.
        RingVillage w = Telling.with("word 1 0 1;word 0 2 1;word 0 3 1;want 0 1 1 1;", "owe 0 1 1;");
        T.asks(w, 1, "tight 0 NONE 0 1 0|2|3", "opens 0 NONE 0 false");
        T.asks(w, 0, "opens 0 NONE 0 true");
        T.asks(w, NONE, "opens 0 0 1 false|true");
    }

    private static void promise38Lent() {
        RingVillage x = Telling.with("people 9;all 99;", "owe 0 8 99;owe 0 7 1;");
        T.asks(x, 792, "lent 0 NONE 0 0 8", "lent 0 NONE 0 8 0", "lent 0 0 1|2 8 0");
        T.asks(x, 693, "lent 0 0 1 0 1|8");
        T.asks(x, 692, "lent 0 0 2 0 1|8");
        T.asks(x, NONE, "lent 0 NONE 0 0 0|9|-1|MIN|MAX", "lent 0 NONE 0 9|-1|MIN|MAX 0|9", "lent 0 NONE 0 8 8");
        T.asks(Telling.with("people 9;", ""), 0, "lent 0 NONE 0 0 8", "lent 0 NONE 0 8 0");
        RingVillage y = Telling.with("people 2;word 1 0 1;", "owe 0 1 1;");
        T.asks(y, 1, "lent 0 0 0 0 1");
        T.asks(y, 0, "lent 0 0 0 1 0", "lent 0 0 1 0 1");
        T.asks(y, NONE, "lent 0 0 0 0 2");
    }

    private static void promise39Weak() {
        for (int people = 2; people <= 9; people++) {
            for (String words : new String[] {"", "all 99;"}) {
                RingVillage x = Telling.with("people " + people + ";" + words, "");
                T.asks(x, 0, "weak 0 0|NONE 0 false");
                T.asks(x, 1, "weak 0 0|NONE 0 true");
            }
        }
        RingVillage x = Telling.with("people 2;all 5;", "owe 1 0 1;owe 0 1 1;owe 0 1 1;");
        T.asks(x, 1, "weak 0 0 1 false", "weak 0 0 0|2|3 true");
        T.asks(x, 0, "weak 0 0 1 true", "weak 0 0 0|2|3 false");
        // 8 to 0 is 1 less: from 8 go 71, but to 0 come 71 too, and 1 is the least from whom they come.
        RingVillage y = Telling.with("people 9;all 9;word 0 8 8;", "owe 0 8 1;");
        T.asks(y, 1, "weak 0 0 0 false");
        T.asks(y, 0, "weak 0 0 0 true");
        // Now 0 to 8 is 1 less: from 0 go 71, and 0 is the least A.
        T.asks(y, 0, "weak 0 0 1 false");
        T.asks(y, 1, "weak 0 0 1 true");
        // From 8 go least of all, to whom ever.
        RingVillage w = Telling.with("people 9;all 9;word 0 8 1;word 1 8 1;", "");
        T.asks(w, 8, "weak 0 NONE 0 false");
        T.asks(w, 0, "weak 0 NONE 0 true");
        // To 0 goes least: from 1, the least who is another one.
        RingVillage z = Telling.with("people 3;all 9;word 0 1 1;word 0 2 1;", "");
        T.asks(z, 1, "weak 0 NONE 0 false");
        T.asks(z, 0, "weak 0 NONE 0 true");
    }

    /** Who is none of the second village's people is no way there, though the first one, asked before, has him. */
    private static void nothingStaysOfAnotherVillage() {
        String[] calls = {"had V NONE 0 1 false", "had V NONE 0 1 true", "most V NONE 0 false true", "most V NONE 0 true true", "worth V NONE 0 0",
            "shilling V NONE 0", "much V NONE 0 0", "lent V NONE 0 1 0", "one V NONE 0 0 0", "falls V NONE 0 0 true"};
        for (String before : new String[] {"had 0 NONE 0 127 false", "had 0 NONE 0 127 true", "lent 0 NONE 0 1 0", "need 0 NONE 0 127", "weak 0 NONE 0 true",
            "most 0 NONE 0 true true", "tight 0 NONE 0 8 7", "opens 0 NONE 0 true", "least 0", "gap 0 NONE 0", "one 0 NONE 0 2 0"}) {
            for (String call : calls) {
                RingVillage x = new RingVillage();
                Telling.tell(x, 0, NONE, "people 9;all 9;slack 9;" + SEVEN);
                Telling.tell(x, 0, NONE, "people 2;word 1 0 9;want 0 1 1 5;");
                Telling.ask(x, before);
                T.asks(x, 0, call.replace("V", "1"));
            }
            RingVillage y = new RingVillage();
            Telling.tell(y, 0, NONE, "people 9;all 9;slack 9;" + SEVEN);
            Telling.tell(y, 0, NONE, "people 2;word 1 0 9;want 0 1 1 5;");
            Telling.ask(y, before);
            T.asks(y, 1, "need 1 NONE 0 1", "least 1", "opens 1 NONE 0 false");
            T.asks(y, 5, "tight 1 NONE 0 1 0");
        }
    }
}
