/** Promises 1 to 9 and 41 to 43: what is told. */
public final class ToldTest {
    private static final int NONE = RingVillage.NONE;
    private static final Telling T = new Telling("ToldTest");

    public static void main(String[] args) {
        newObject();
        tapeGrowsAndEnds();
        textsFindTheirPlace();
        villagesAreRead();
        rowsAreRead();
        faultsOfForm();
        faultsOfNumbers();
        faultsOfMany();
        faultsOfPeople();
        imagesAndAgain();
        T.close();
    }

    private static void newObject() {
        RingVillage x = new RingVillage();
        T.due("new count(0)", x.count(0), 0);
        T.due("new count(1)", x.count(1), 0);
        T.due("new count(2)", x.count(2), -2);
        T.due("new count(-1)", x.count(-1), -2);
        T.due("new fault(0)", x.fault(0), 0);
        T.due("new fault(1)", x.fault(1), NONE);
        T.due("new fault(2)", x.fault(2), NONE);
        T.due("new fault(-1)", x.fault(-1), NONE);
        for (int k = -1; k <= 3; k++) {
            T.due("new again(" + k + ")", x.again(k), false);
        }
        T.due("new village(0, 0)", x.village(0, 0), NONE);
        T.due("new act(0, -1, 0)", x.act(0, NONE, 0), -2);
        T.due("new end(0)", x.end(0), 0);
        T.due("new end(1)", x.end(1), NONE);
    }

    private static void tapeGrowsAndEnds() {
        RingVillage x = new RingVillage();
        for (int i = 1; i <= 30; i++) {
            T.due("feed " + i, x.feed(0x20202020, 0x20202020, 0x20202020, 0x20202020, 0x0a0a0a0a), 20 * i);
        }
        T.due("feed 31", x.feed(1, 2, 3, 4, 5), NONE);
        T.due("end(601)", x.end(601), NONE);
        T.due("end(-1)", x.end(-1), NONE);
        T.due("end(600)", x.end(600), 600);
        T.due("end(581)", x.end(581), 581);
        T.due("feed beyond 600", x.feed(1, 2, 3, 4, 5), NONE);
        T.due("end(582) of 581", x.end(582), NONE);
        T.due("end(580)", x.end(580), 580);
        T.due("feed up to 600", x.feed(0x20202020, 0x20202020, 0x20202020, 0x20202020, 0x20202020), 600);
        T.due("text of blanks", x.text(0, NONE), 0);
        T.due("the tape is taken", x.feed(0x70656f70, 0x6c652037, 0x3b616c6c, 0x20393b20, 0x20202020), 20);
        T.due("text", x.text(0, NONE), 1);
        T.due("the highest byte first", x.village(1, 0), 7);
        T.due("all words", x.word(1, 6, 0), 9);
        T.due("feed bytes above 127", x.feed(-1, -1, -1, -1, -1), 20);
        T.due("end(0)", x.end(0), 0);
        T.due("feed behind the end", x.feed(-1, -1, -1, -1, -1), 20);
        T.due("a byte above 127", x.text(1, NONE), NONE);
        T.due("a byte above 127: fault", x.fault(0), 1);
        T.due("a byte above 127: place", x.fault(1), 0);
    }

    private static void textsFindTheirPlace() {
        RingVillage x = new RingVillage();
        T.due("text in the place of none", Telling.tell(x, 0, 0, "people 3;"), -2);
        T.due("no text is read, but the tape is taken", x.end(1), NONE);
        T.due("first village", Telling.tell(x, 0, NONE, "people 3;"), 0);
        T.due("the tape that was read is taken", x.end(1), NONE);
        T.due("no such sort", Telling.tell(x, 2, NONE, ""), -2);
        T.due("no such sort", Telling.tell(x, -1, NONE, ""), -2);
        T.due("second village", Telling.tell(x, 0, NONE, "people 5;"), 1);
        T.due("count(0)", x.count(0), 2);
        T.due("a third village", Telling.tell(x, 0, NONE, "people 6;"), -2);
        T.due("no such place", Telling.tell(x, 0, 2, "people 6;"), -2);
        T.due("no such place", Telling.tell(x, 0, -2, "people 6;"), -2);
        T.due("in the place of one", Telling.tell(x, 0, 0, "people 6;"), 0);
        T.due("village 0", x.village(0, 0), 6);
        T.due("village 1", x.village(1, 0), 5);
        for (int i = 0; i < 3; i++) {
            T.due("row " + i, Telling.tell(x, 1, NONE, "month;"), i);
        }
        T.due("a fourth row", Telling.tell(x, 1, NONE, "month;"), -2);
        T.due("in the place of a row", Telling.tell(x, 1, 1, "month;month;"), 1);
        T.due("row 1", x.act(1, NONE, 0), 2);
        T.due("count(1)", x.count(1), 3);
        T.due("a fault keeps what was there", Telling.tell(x, 1, 1, "moon;"), NONE);
        T.due("fault(0)", x.fault(0), 1);
        T.due("row 1 is as it was", x.act(1, NONE, 0), 2);
        T.due("-2 leaves no fault", Telling.tell(x, 1, 3, "moon;"), -2);
        T.due("fault(0) behind -2", x.fault(0), 0);
        T.due("fault(1) behind -2", x.fault(1), NONE);
        refusedTextsTakeTheTape(x);
        T.due("a place is made anew", Telling.tell(x, 0, 0, ""), 0);
        T.due("as at first", x.village(0, 0), 4);
    }

    /** Both villages and all three rows stand, so every one of these has no place. */
    private static void refusedTextsTakeTheTape(RingVillage x) {
        int[][] refused = {{0, NONE}, {0, 2}, {0, -2}, {1, NONE}, {1, 3}, {1, -2}, {2, NONE}, {2, 0}, {-1, NONE}, {-1, 0}};
        for (int[] r : refused) {
            String at = " (" + r[0] + ", " + r[1] + ")";
            T.due("refused" + at, Telling.tell(x, r[0], r[1], "month;"), -2);
            T.due("taken, though refused" + at, x.end(1), NONE);
            T.due("empty behind it" + at, x.feed(0, 0, 0, 0, 0), 20);
        }
        T.due("a fault takes the tape too", Telling.tell(x, 1, 0, "moon;"), NONE);
        T.due("taken, though with a fault", x.end(1), NONE);
    }

    private static void villagesAreRead() {
        RingVillage x = new RingVillage();
        Telling.tell(x, 0, NONE, "word 0 1 5;all 7;word 2 1 99;people 5\n;fee 4 8;fee 4 9;risk 3 99;slack 9;slack 3;"
            + "want 0 4 1 0;want 4 0 99 99;");
        T.due("people", x.village(0, 0), 5);
        T.due("wants", x.village(0, 1), 2);
        T.due("slack", x.village(0, 2), 3);
        T.due("what 3", x.village(0, 3), NONE);
        T.due("what -1", x.village(0, -1), NONE);
        T.due("what 9", x.village(0, 9), NONE);
        T.due("fee of 4", x.village(0, 14), 9);
        T.due("fee of 0", x.village(0, 10), 0);
        T.due("fee of 5", x.village(0, 15), NONE);
        T.due("what 19", x.village(0, 19), NONE);
        T.due("risk of 3", x.village(0, 23), 99);
        T.due("risk of 0", x.village(0, 20), 0);
        T.due("risk of 4", x.village(0, 24), 0);
        T.due("risk of 5", x.village(0, 25), NONE);
        T.due("no such village", x.village(1, 0), NONE);
        T.due("no such village", x.village(-1, 0), NONE);
        T.due("later ones strike", x.word(0, 0, 1), 7);
        T.due("later ones strike", x.word(0, 2, 1), 99);
        T.due("who comes by people", x.word(0, 4, 3), 7);
        T.due("of oneself", x.word(0, 3, 3), 0);
        T.due("none of people", x.word(0, 5, 0), NONE);
        T.due("none of people", x.word(0, 0, 5), NONE);
        T.due("none of people", x.word(0, -1, 0), NONE);
        T.due("no such village", x.word(1, 0, 1), NONE);
        int[] second = {4, 0, 99, 99};
        for (int what = 0; what < 4; what++) {
            T.due("want 1, what " + what, x.want(0, 1, what), second[what]);
        }
        T.due("want 0, worth", x.want(0, 0, 3), 0);
        T.due("want what 4", x.want(0, 1, 4), NONE);
        T.due("want what -1", x.want(0, 1, -1), NONE);
        T.due("no such want", x.want(0, 2, 0), NONE);
        T.due("no such want", x.want(0, -1, 0), NONE);
        T.due("no such village", x.want(1, 0, 0), NONE);
        T.due("tokens go as long as they go", Telling.tell(x, 0, NONE, "people9;\n\nall\n08;risk 8 1;"), 1);
        T.due("nine people", x.village(1, 0), 9);
        T.due("all words 8", x.word(1, 8, 0), 8);
    }

    private static void rowsAreRead() {
        RingVillage x = new RingVillage();
        Telling.tell(x, 1, NONE, "owe 0 8 99;pay 8 0 1;ring 99 0 8 7 6 5 4 3;ring 1 99 0 1;strike 29;fail 8;month;");
        int[][] want = {
            {0, 0, 8, 99, NONE, NONE, NONE, NONE, NONE}, {1, 8, 0, 1, NONE, NONE, NONE, NONE, NONE},
            {2, 99, 0, 8, 7, 6, 5, 4, 3}, {2, 1, 99, 0, 1, NONE, NONE, NONE, NONE},
            {3, 29, NONE, NONE, NONE, NONE, NONE, NONE, NONE}, {4, 8, NONE, NONE, NONE, NONE, NONE, NONE, NONE},
            {5, NONE, NONE, NONE, NONE, NONE, NONE, NONE, NONE}};
        T.due("how many acts", x.act(0, NONE, 0), want.length);
        for (int act = 0; act < want.length; act++) {
            for (int what = 0; what < 9; what++) {
                T.due("act " + act + ", what " + what, x.act(0, act, what), want[act][what]);
            }
            T.due("act " + act + ", what 9", x.act(0, act, 9), -2);
            T.due("act " + act + ", what -1", x.act(0, act, -1), -2);
        }
        T.due("no such act", x.act(0, 7, 0), -2);
        T.due("no such act", x.act(0, -2, 0), -2);
        T.due("act NONE, what 1", x.act(0, NONE, 1), -2);
        T.due("no such row", x.act(1, NONE, 0), -2);
        T.due("no such row", x.act(-1, 0, 0), -2);
        T.due("thirty acts", Telling.tell(x, 1, 0, "month;".repeat(30)), 0);
        T.due("thirty acts", x.act(0, NONE, 0), 30);
        T.due("an empty row", Telling.tell(x, 1, 0, " \n "), 0);
        T.due("an empty row", x.act(0, NONE, 0), 0);
    }

    private static void faulty(int sort, String text, int fault, int place) {
        RingVillage x = new RingVillage();
        T.due("text(" + sort + ") " + text, Telling.tell(x, sort, NONE, text), fault == 0 ? 0 : NONE);
        T.due("fault(0) of " + text, x.fault(0), fault);
        T.due("fault(1) of " + text, x.fault(1), place);
        T.due("the tape is empty behind " + text, x.end(1), NONE);
        T.due("nothing is kept of " + text, x.count(sort), fault == 0 ? 1 : 0);
    }

    private static void faultsOfForm() {
        faulty(0, "", 0, NONE);
        faulty(0, ";", 1, 0);
        faulty(0, "people", 1, 6);
        faulty(0, "people 3", 1, 8);
        faulty(0, "people 3 \n", 1, 10);
        faulty(0, "people 3;;", 1, 9);
        faulty(0, "people 3 4;", 1, 9);
        faulty(0, "people x;", 1, 7);
        faulty(0, "peoples 3;", 1, 0);
        faulty(0, "  peopl 3;", 1, 2);
        faulty(0, "peoplez 3;", 1, 0);
        faulty(0, "peoplea 3;", 1, 0);
        faulty(0, "People 3;", 1, 0);
        faulty(0, "pEople 3;", 1, 0);
        faulty(0, "people 003;", 1, 7);
        faulty(0, "people\t3;", 1, 6);
        faulty(0, "people -3;", 1, 7);
        faulty(0, "all 3;month;", 1, 6);
        faulty(0, "3;", 1, 0);
        faulty(0, "people 99;word 1 1 200;", 1, 19);
        faulty(0, "people 99;x", 1, 10);
        faulty(0, "want 0 1 2;", 1, 10);
        faulty(0, "want 0 1 2 3 4;", 1, 13);
        faulty(0, "people 3;\u0000", 1, 9);
        faulty(0, "people 3;\u00e9", 1, 9);
        faulty(1, "people 3;", 1, 0);
        faulty(1, "ring 1 2;", 1, 8);
        faulty(1, "ring 1 2 3;", 1, 10);
        faulty(1, "ring 1 2 3 4", 1, 12);
        faulty(1, "ring 0 2 3 3 111;", 1, 13);
        faulty(1, "strike;", 1, 6);
        faulty(1, "strike 1 2;", 1, 9);
        faulty(1, "fail 1 2;", 1, 7);
        faulty(1, "month 1;", 1, 6);
        faulty(1, "month;".repeat(31) + "x", 1, 186);
    }

    private static void faultsOfNumbers() {
        faulty(0, "people 1;", 2, 7);
        faulty(0, "people 2;", 0, NONE);
        faulty(0, "people 10;", 2, 7);
        faulty(0, "people 9;word 8 0 0;", 0, NONE);
        faulty(0, "word 9 0 0;", 2, 5);
        faulty(0, "word 0 9 0;", 2, 7);
        faulty(0, "word 3 3 0;", 2, 7);
        faulty(0, "word 9 9 0;", 2, 5);
        faulty(0, "fee 9 0;", 2, 4);
        faulty(0, "risk 9 0;", 2, 5);
        faulty(0, "slack 10;", 2, 6);
        faulty(0, "want 0 0 1 1;", 2, 7);
        faulty(0, "want 0 1 0 1;", 2, 9);
        faulty(0, "want 0 1 0 1;people 1;", 2, 9);
        faulty(1, "owe 0 0 1;", 2, 6);
        faulty(1, "owe 0 1 0;", 2, 8);
        faulty(1, "pay 9 1 1;", 2, 4);
        faulty(1, "ring 0 0 0 1;", 2, 5);
        faulty(1, "ring 1 0 9 1;", 2, 9);
        faulty(1, "ring 1 0 0 9;", 2, 11);
        faulty(1, "ring 1 0 0 1 9;", 2, 13);
        faulty(1, "ring 1 0 0 1 2 3 4 0;", 2, 19);
        faulty(1, "ring 8 8 0 1 2 3 4 8;", 0, NONE);
        faulty(1, "strike 30;", 2, 7);
        faulty(1, "strike 29;", 0, NONE);
        faulty(1, "fail 9;", 2, 5);
    }

    private static void faultsOfMany() {
        String want = "want 0 1 1 1;";
        faulty(0, want.repeat(7), 0, NONE);
        faulty(0, want.repeat(8), 3, 91);
        faulty(0, want.repeat(7) + "want 0 0 1 1;", 3, 91);
        faulty(0, want.repeat(6) + "want 0 0 1 1;" + want, 2, 85);
        faulty(1, "month;".repeat(31), 3, 180);
        faulty(1, "month;".repeat(30) + "fail 9;", 3, 180);
        faulty(1, "month;".repeat(29) + "fail 9;" + "month;", 2, 179);
        faulty(1, "ring 1 1 0 1 2 3 4 5;", 0, NONE);
        faulty(1, "ring 1 1 0 1 2 3 4 5 6;", 3, 21);
        faulty(1, "ring 1 1 0 1 2 3 4 5 5;", 2, 21);
        faulty(1, "ring 1 1 0 1 2 3 4 5 9;", 2, 21);
        faulty(1, "ring 1 1 0 1 2 3 4 5 6 7 8 0 99;", 3, 21);
    }

    private static void faultsOfPeople() {
        faulty(0, "word 4 0 1;", 4, 11);
        faulty(0, "word 0 4 1;", 4, 11);
        faulty(0, "word 0 4 1; \n", 4, 13);
        faulty(0, "fee 4 0;", 4, 8);
        faulty(0, "risk 4 0;", 4, 9);
        faulty(0, "want 4 0 1 0;", 4, 13);
        faulty(0, "want 0 4 1 0;", 4, 13);
        faulty(0, "fee 4 0;people 5;", 0, NONE);
        faulty(0, "people 9;fee 8 0;people 8;", 4, 26);
        faulty(0, "word 4 0 1;all 3;", 4, 17);
        faulty(0, "word 4 0 1;slack 10;", 2, 17);
        faulty(0, "people 2;all 3;want 0 1 1 0;", 0, NONE);
        faulty(1, "owe 8 0 1;ring 1 1 7 8;fail 8;", 0, NONE);
    }

    private static void imagesAndAgain() {
        RingVillage x = new RingVillage();
        T.due("image(-1)", x.image(-1), false);
        T.due("image(3)", x.image(3), false);
        T.due("image(0)", x.image(0), true);
        Telling.tell(x, 0, NONE, "people 3;fee 2 7;risk 1 8;slack 2;word 0 1 6;want 0 1 2 3;");
        Telling.tell(x, 1, NONE, "owe 1 0 4;");
        Telling.tell(x, 1, NONE, "fail 9;");
        Telling.tape(x, "month;");
        T.due("image(1)", x.image(1), true);
        Telling.tell(x, 0, 0, "people 9;");
        Telling.tell(x, 0, NONE, "people 8;");
        Telling.tell(x, 1, 0, "month;month;");
        T.due("image(2)", x.image(2), true);
        T.due("again(1)", x.again(1), true);
        T.due("again: the tape", x.end(6), 6);
        T.due("again: no more tape", x.end(7), NONE);
        T.due("again: fault", x.fault(0), 2);
        T.due("again: place", x.fault(1), 5);
        T.due("again: villages", x.count(0), 1);
        T.due("again: rows", x.count(1), 1);
        T.due("again: people", x.village(0, 0), 3);
        T.due("again: fee", x.village(0, 12), 7);
        T.due("again: risk", x.village(0, 21), 8);
        T.due("again: slack", x.village(0, 2), 2);
        T.due("again: want", x.want(0, 0, 3), 3);
        T.due("again: owes", x.owes(0, 0, 1, 1, 0), 4);
        T.due("again: the tape is the text", x.text(1, NONE), 1);
        T.due("again: the tape is the text", x.act(1, 0, 0), 5);
        T.due("other images stay", x.again(2), true);
        T.due("again(2): villages", x.count(0), 2);
        T.due("again(2): people", x.village(0, 0), 9);
        T.due("again(2): acts", x.act(0, NONE, 0), 2);
        T.due("again(0)", x.again(0), true);
        T.due("again(0): villages", x.count(0), 0);
        T.due("again(0): fault", x.fault(0), 0);
        T.due("again(1) once more", x.again(1), true);
        T.due("an image is not what came of it", x.count(1), 1);
        T.due("image(1) anew", x.image(1), true);
        T.due("again(3)", x.again(3), false);
        T.due("again(-1)", x.again(-1), false);
        fullImage();
    }

    private static void fullImage() {
        RingVillage x = new RingVillage();
        Telling.tell(x, 0, NONE, "people 2;");
        Telling.tell(x, 0, NONE, "people 3;");
        for (int i = 1; i <= 3; i++) {
            Telling.tell(x, 1, NONE, "month;".repeat(i));
        }
        x.image(2);
        for (int i = 0; i < 3; i++) {
            Telling.tell(x, 0, i, "people 9;");
            Telling.tell(x, 1, i, "");
        }
        T.due("a full image", x.again(2), true);
        T.due("the last village", x.village(1, 0), 3);
        for (int i = 0; i < 3; i++) {
            T.due("row " + i, x.act(i, NONE, 0), i + 1);
        }
    }
}
