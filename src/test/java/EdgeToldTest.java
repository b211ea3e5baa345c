/** Term 1 and promises 1 to 9 and 41 to 43 at their edges: too small, too large, empty, full, refused. */
public final class EdgeToldTest {
    private static final int NONE = RingVillage.NONE;
    private static final int NO_SUCH = -2;
    private static final int NO_STATE = -100000;
    private static final int YES = 1;
    private static final int NO = 0;
    private static final int BLANKS = 0x20202020;
    private static final String WANT = "want 0 1 1 0;";
    private static final Telling T = new Telling("EdgeToldTest");

    public static void main(String[] args) {
        promise1NewObject();
        promise2FeedUpTo600();
        promise2FeedPutsTheHighestFirst();
        promise2FeedBehindTheEnd();
        promise3End();
        promise4TextWhereNoneStand();
        promise4TextWhereAllStand();
        promise4TextBehindAFault();
        promise4TextOfAnEmptyTape();
        promise5Fault();
        promise6Village();
        promise7Word();
        promise8Want();
        promise9Act();
        promise41Count();
        promise42Image();
        promise43Again();
        term1Bytes();
        term1Tokens();
        term1Words();
        term1LaterOnesStrike();
        term1NumbersOfVillages();
        term1NumbersOfRows();
        term1HowManyNumbers();
        term1TooMany();
        term1FaultsByPlace();
        term1NoneOfPeople();
        term1SixHundredBytes();
        the512thCall();
        T.close();
    }

    private static void promise1NewObject() {
        RingVillage x = new RingVillage();
        T.asks(x, 0, "count 0|1", "fault 0", "end 0");
        T.asks(x, NO, "again 0|1|2");
        T.asks(x, NONE, "fault 1", "end 1", "village 0|1 0|1|2|10|20", "word 0 0 1", "want 0 0 0", "stop 0 0|NONE", "hour 0 0|NONE",
            "owes 0 0|NONE 0 0 1", "room 0 0|NONE 0 0 1", "ring 0 0|NONE 0 0 0", "find 0 0|NONE 0 0 0 0", "stands 0 0|NONE 0 0 0 true",
            "bars 0 0|NONE 0 0", "much 0 0|NONE 0 0", "most 0 0|NONE 0 false false", "shilling 0 0|NONE 0", "worth 0 0|NONE 0 0",
            "need 0 0|NONE 0 0", "least 0", "falls 0 0|NONE 0 0 false", "rest 0 0|NONE 0 0 0", "early 0 0|NONE 0 0 1 1",
            "stranger 0 0|NONE 0 0 2 0", "one 0 0|NONE 0 0 0", "tight 0 0|NONE 0 0 1", "opens 0 0|NONE 0 false", "roll 0 0|NONE 0 0",
            "lent 0 0|NONE 0 0 1", "weak 0 0|NONE 0 false", "take 0 0|NONE 0 2 1 1");
        T.asks(x, NO_SUCH, "act 0 NONE|0 0", "state 0 0|NONE 0 0", "months 0 0|NONE 0 1 1 0");
        T.asks(x, NO_STATE, "over 0 0|NONE 0 0", "gap 0 0|NONE 0");
        T.asks(x, NO, "lawful 0 0|NONE 0", "had 0 0|NONE 0 0 false|true");
    }

    private static void promise2FeedUpTo600() {
        RingVillage x = new RingVillage();
        Telling.tape(x, "people 5;" + " ".repeat(571) + "\n".repeat(20));
        T.asks(x, 600, "end 600");
        // "people 6;" would come behind.
        T.due("feed to a full tape", x.feed(0x70656f70, 0x6c652036, 0x3b202020, BLANKS, BLANKS), NONE);
        T.asks(x, 600, "end 600");
        T.asks(x, 0, "text 0 NONE");
        T.asks(x, 5, "village 0 0");
        for (int length = 581; length <= 600; length++) {
            RingVillage y = new RingVillage();
            Telling.tape(y, " ".repeat(length));
            T.due("feed behind " + length, y.feed(BLANKS, BLANKS, BLANKS, BLANKS, BLANKS), NONE);
            T.due("as many as before, " + length, y.end(length), length);
            T.due("no more than before, " + length, y.end(length + 1), NONE);
        }
        RingVillage z = new RingVillage();
        Telling.tape(z, " ".repeat(580));
        T.due("feed behind 580", z.feed(BLANKS, BLANKS, BLANKS, BLANKS, BLANKS), 600);
        T.asks(z, 0, "text 1 NONE");
        T.asks(z, 20, "feed 0 0 0 0 0");
    }

    private static void promise2FeedPutsTheHighestFirst() {
        for (int place = 0; place < 40; place++) {
            int[] fed = new int[10];
            for (int i = 0; i < fed.length; i++) {
                int shift = 24 - 8 * (place % 4);
                int other = (place & 1) == 0 ? '#' : 255;
                fed[i] = i == place / 4 ? BLANKS & ~(255 << shift) | other << shift : BLANKS;
            }
            RingVillage x = new RingVillage();
            T.due("twenty", x.feed(fed[0], fed[1], fed[2], fed[3], fed[4]), 20);
            T.due("twenty more", x.feed(fed[5], fed[6], fed[7], fed[8], fed[9]), 40);
            T.asks(x, NONE, "text 0 NONE");
            T.asks(x, 1, "fault 0");
            T.due("the place of byte " + place, x.fault(1), place);
        }
        RingVillage y = new RingVillage();
        T.asks(y, 20, "feed MIN MAX 0 -1 1");
        T.asks(y, 40, "feed MIN MIN MIN MIN MIN");
        T.asks(y, NONE, "text 1 NONE");
        T.asks(y, 0, "fault 1");
    }

    private static void promise2FeedBehindTheEnd() {
        RingVillage x = new RingVillage();
        Telling.tape(x, "people 5;people 6;");
        T.asks(x, 9, "end 9");
        // "slack 7;" and blanks.
        T.due("behind nine", x.feed(0x736c6163, 0x6b20373b, BLANKS, BLANKS, BLANKS), 29);
        T.asks(x, 0, "text 0 NONE");
        T.asks(x, 5, "village 0 0");
        T.asks(x, 7, "village 0 2");
    }

    private static void promise3End() {
        RingVillage x = new RingVillage();
        T.asks(x, 0, "end 0");
        T.asks(x, NONE, "end -1|1|20|600|MIN|MAX");
        Telling.tape(x, "people 5;people 6;");
        T.asks(x, NONE, "end 19|20|600|601|MAX|-1|MIN");
        T.asks(x, 18, "end 18");
        T.asks(x, 9, "end 9");
        T.asks(x, NONE, "end 10|18");
        T.asks(x, 0, "text 0 NONE");
        T.asks(x, 5, "village 0 0");
        Telling.tape(x, "people 5;people 6;");
        T.asks(x, NONE, "end 19|-1");
        T.asks(x, 0, "text 0 0");
        T.asks(x, 6, "village 0 0");
        Telling.tape(x, "people 5;people 6;");
        T.asks(x, 0, "end 0");
        T.asks(x, NONE, "end 1");
        T.asks(x, 0, "text 0 0");
        T.asks(x, 4, "village 0 0");
        Telling.tape(x, " ".repeat(600));
        T.asks(x, NONE, "end 601|MAX|-1");
        T.asks(x, 600, "end 600");
        T.asks(x, 599, "end 599");
        T.asks(x, NONE, "end 600");
    }

    private static void promise4TextWhereNoneStand() {
        RingVillage x = new RingVillage();
        T.asks(x, NO_SUCH, "text 0|1 0|1|2|3|-2|MIN|MAX", "text -1|2|MIN|MAX NONE|0");
        T.asks(x, 0, "count 0|1");
        T.asks(x, 0, "text 0 NONE");
        T.asks(x, NO_SUCH, "text 1 0", "text 0 1|2");
        T.asks(x, 0, "text 1 NONE", "text 0|1 0");
        T.asks(x, 1, "text 0|1 NONE");
        T.asks(x, 2, "text 1 NONE");
        T.asks(x, 2, "count 0");
        T.asks(x, 3, "count 1");
    }

    private static void promise4TextWhereAllStand() {
        String[] refused = {"text 0 NONE", "text 0 2", "text 0 -2", "text 0 MIN", "text 0 MAX", "text 1 NONE", "text 1 3", "text 1 -2",
            "text 1 MIN", "text 1 MAX", "text 2 NONE", "text -1 NONE", "text 2 0", "text -1 0", "text MIN 0", "text MAX 1"};
        for (String call : refused) {
            RingVillage x = full();
            T.asks(x, 2, "fault 0");
            Telling.tape(x, "moon 123;");
            T.asks(x, NO_SUCH, call);
            T.due("no text is read by " + call, x.fault(0), 0);
            T.due("no place by " + call, x.fault(1), NONE);
            T.due("the tape is taken by " + call, x.end(1), NONE);
            T.asks(x, 2, "count 0", "village 0 0");
            T.asks(x, 3, "count 1", "village 1 0", "act 2 NONE 0");
            T.asks(x, 1, "act 0 NONE 0");
        }
        RingVillage y = full();
        Telling.tape(y, "people 9;");
        T.asks(y, 1, "text 0 1");
        T.asks(y, 9, "village 1 0");
        T.asks(y, 2, "village 0 0", "count 0");
        Telling.tape(y, "fail 3;");
        T.asks(y, 2, "text 1 2");
        T.asks(y, 1, "act 2 NONE 0");
        T.asks(y, 2, "act 1 NONE 0");
        T.asks(y, 3, "count 1");
    }

    /** As many villages and rows as may be, and a FAULT behind them. */
    private static RingVillage full() {
        RingVillage x = new RingVillage();
        for (int i = 0; i < 2; i++) {
            Telling.tell(x, 0, NONE, "people " + (2 + i) + ";");
        }
        for (int i = 0; i < 3; i++) {
            Telling.tell(x, 1, NONE, "month;".repeat(1 + i));
        }
        Telling.tell(x, 1, 0, "fail 9;");
        return x;
    }

    private static void promise4TextBehindAFault() {
        String[][] faulty = {{"0", "people 1;"}, {"0", "people"}, {"0", WANT.repeat(8)}, {"0", "fee 8 1;"},
            {"1", "fail 9;"}, {"1", "mont;"}, {"1", "month;".repeat(31)}};
        for (String[] each : faulty) {
            RingVillage x = full();
            Telling.tape(x, each[1]);
            T.asks(x, NONE, "text " + each[0] + " 0", "end 1");
            T.asks(x, 2, "count 0", "village 0 0");
            T.asks(x, 3, "count 1");
            T.asks(x, 1, "act 0 NONE 0");
            T.due("a fault of " + each[1], x.fault(0) > 0, true);
            T.asks(x, 0, "text " + each[0] + " 0", "fault 0");
            T.asks(x, NONE, "fault 1");
            RingVillage y = new RingVillage();
            Telling.tape(y, each[1]);
            T.asks(y, NONE, "text " + each[0] + " NONE", "end 1");
            T.asks(y, 0, "count 0|1");
        }
    }

    private static void promise4TextOfAnEmptyTape() {
        RingVillage x = new RingVillage();
        T.asks(x, 0, "text 0|1 NONE", "fault 0");
        T.asks(x, 4, "village 0 0");
        T.asks(x, 0, "village 0 1|2|10|11|12|13|20|21|22|23", "word 0 0|1|2|3 0|1|2|3", "act 0 NONE 0", "stop 0 0");
        T.asks(x, NONE, "fault 1", "village 0 14|24", "word 0 0 4", "want 0 0 0", "hour 0 0");
        T.asks(x, NO_SUCH, "act 0 0 0");
    }

    private static void promise5Fault() {
        RingVillage x = new RingVillage();
        T.asks(x, NONE, "fault 1|2|-1|MIN|MAX");
        Telling.tell(x, 0, NONE, "people 1;");
        T.asks(x, 2, "fault 0");
        T.asks(x, 7, "fault 1");
        T.asks(x, NONE, "fault 2|-1|MIN|MAX");
        Telling.tell(x, 1, NONE, "x");
        T.asks(x, 1, "fault 0");
        T.asks(x, 0, "fault 1");
        x.feed(0, 0, 0, 0, 0);
        x.end(3);
        T.asks(x, 1, "fault 0");
        T.asks(x, 0, "fault 1");
        Telling.tell(x, 1, NONE, "month;");
        T.asks(x, 0, "fault 0");
        T.asks(x, NONE, "fault 1");
    }

    private static void promise6Village() {
        RingVillage x = new RingVillage();
        Telling.tell(x, 0, NONE, "people 9;slack 9;fee 0 1;fee 8 99;risk 0 2;risk 8 99;" + WANT.repeat(7));
        Telling.tell(x, 0, NONE, "people 2;");
        T.asks(x, 9, "village 0 0|2");
        T.asks(x, 7, "village 0 1");
        T.asks(x, 1, "village 0 10");
        T.asks(x, 2, "village 0 20", "village 1 0");
        T.asks(x, 99, "village 0 18|28");
        T.asks(x, 0, "village 0 11|17|21|27", "village 1 1|2|10|11|20|21");
        T.asks(x, NONE, "village 0 19|29", "village 1 12|19|22|29", "village 0|1 -1|3|9|30|100|MIN|MAX", "village 2|-1|-2|MIN|MAX 0");
    }

    private static void promise7Word() {
        RingVillage x = new RingVillage();
        Telling.tell(x, 0, NONE, "people 9;word 8 0 99;word 0 8 1;word 7 8 0;");
        Telling.tell(x, 0, NONE, "people 2;all 99;");
        T.asks(x, 99, "word 0 8 0", "word 1 0 1", "word 1 1 0");
        T.asks(x, 1, "word 0 0 8");
        T.asks(x, 0, "word 0 7 8", "word 0 8 7|8", "word 0 0 0", "word 1 0 0", "word 1 1 1");
        T.asks(x, NONE, "word 0 9|-1|MIN|MAX 0", "word 0 0 9|-1|MIN|MAX", "word 1 2 0|2", "word 1 0 2", "word 2|-1|MIN|MAX 0 1");
        RingVillage y = new RingVillage();
        Telling.tell(y, 0, NONE, "people 9;all 5;");
        T.asks(y, 5, "word 0 8 7", "word 0 0 8");
        T.asks(y, 0, "word 0 8 8", "word 0 4 4");
    }

    private static void promise8Want() {
        RingVillage x = new RingVillage();
        Telling.tell(x, 0, NONE, "people 9;want 8 0 1 99;" + WANT.repeat(5) + "want 0 8 99 0;");
        Telling.tell(x, 0, NONE, "");
        T.asks(x, 8, "want 0 0 0", "want 0 6 1");
        T.asks(x, 0, "want 0 0 1", "want 0 6 0|3");
        T.asks(x, 1, "want 0 0 2");
        T.asks(x, 99, "want 0 0 3", "want 0 6 2");
        T.asks(x, NONE, "want 0 0|6 -1|4|10|MIN|MAX", "want 0 7|-1|MIN|MAX 0", "want 1 0|-1 0", "want 2|-1|MIN|MAX 0 0");
    }

    private static void promise9Act() {
        RingVillage x = new RingVillage();
        Telling.tell(x, 1, NONE, "owe 8 0 99;" + "month;".repeat(28) + "ring 1 99 8 7 6 5 4 3;");
        Telling.tell(x, 1, NONE, "");
        Telling.tell(x, 1, NONE, "ring 99 0 0 8;strike 0;strike 29;fail 0;pay 0 1 1;");
        T.asks(x, 30, "act 0 NONE 0");
        T.asks(x, 0, "act 1 NONE 0", "act 0 0 0|2", "act 2 0 2|3", "act 2 1 1", "act 2 3 1");
        T.asks(x, 5, "act 2 NONE 0", "act 0 1|28 0", "act 0 29 6");
        T.asks(x, 8, "act 0 0 1", "act 0 29 3", "act 2 0 4");
        T.asks(x, 99, "act 0 0 3", "act 0 29 2", "act 2 0 1");
        T.asks(x, 29, "act 2 2 1");
        T.asks(x, 3, "act 0 29 8", "act 2 1|2 0");
        T.asks(x, NONE, "act 0 0 4|8", "act 0 1|28 1|8", "act 2 0 5|6|7|8", "act 2 1|2|3 2|8", "act 2 4 4|8");
        T.asks(x, NO_SUCH, "act 0 30|-2|MIN|MAX 0", "act 0 0|29 9|-1|MIN|MAX", "act 0 NONE -1|1|8|9|MIN|MAX", "act 1 0 0|1", "act 1 NONE 1",
            "act 2 5 0", "act 3|-1|-2|MIN|MAX NONE|0 0");
    }

    private static void promise41Count() {
        RingVillage x = new RingVillage();
        T.asks(x, NO_SUCH, "count -1|2|3|MIN|MAX");
        T.asks(x, 0, "text 0 NONE", "count 1");
        T.asks(x, 1, "count 0", "text 0 NONE");
        T.asks(x, 2, "count 0");
        T.asks(x, NO_SUCH, "text 0 NONE");
        T.asks(x, 2, "count 0");
        T.asks(x, 0, "count 1");
        T.asks(x, 0, "text 1 NONE");
        T.asks(x, 1, "count 1", "text 1 NONE");
        T.asks(x, 2, "count 1", "text 1 NONE");
        T.asks(x, NO_SUCH, "text 1 NONE", "count -1|2|MIN|MAX");
        T.asks(x, 3, "count 1");
    }

    private static void promise42Image() {
        RingVillage x = new RingVillage();
        T.asks(x, NO, "image -1|3|4|MIN|MAX", "again -1|0|1|2|3|MIN|MAX");
        T.asks(x, YES, "image 2");
        T.asks(x, NO, "again 0|1|3|-1");
        T.asks(x, YES, "again 2", "image 0|1|2", "again 0|1|2");
        // An image of nothing at all, then of all that may be; the later one strikes.
        RingVillage y = full();
        Telling.tape(y, "owe 0 1 7;");
        T.asks(y, YES, "image 0", "image 0");
        T.asks(y, NO, "image 3|-1");
        T.asks(y, 10, "end 10");
        T.asks(y, 2, "fault 0", "count 0");
        T.asks(y, 0, "text 1 0");
        T.asks(y, 7, "act 0 0 3");
        T.asks(y, YES, "again 0");
        T.asks(y, 1, "act 0 NONE 0");
        T.asks(y, 2, "fault 0");
        T.asks(y, 5, "fault 1");
        T.asks(y, 0, "text 1 0");
        T.asks(y, 7, "act 0 0 3");
    }

    private static void promise43Again() {
        RingVillage x = full();
        Telling.tape(x, "month;month;");
        T.asks(x, NO, "again 0|1|2|3|-1|MIN|MAX");
        T.asks(x, 2, "count 0", "fault 0", "act 1 NONE 0");
        T.asks(x, 12, "end 12");
        T.asks(x, YES, "image 1");
        T.asks(x, NO, "again 0|2");
        Telling.tell(x, 0, 0, "people 9;slack 4;all 7;");
        Telling.tell(x, 1, 1, "");
        Telling.tape(x, "fail 1;fail 2;fail 3;");
        T.asks(x, YES, "image 2", "again 1");
        T.asks(x, 2, "village 0 0", "act 1 NONE 0", "fault 0");
        T.asks(x, 0, "village 0 2", "word 0 0 1");
        T.asks(x, NONE, "end 13");
        T.asks(x, 2, "text 1 2");
        T.asks(x, 2, "act 2 NONE 0");
        T.asks(x, 5, "act 2 1 0");
        T.asks(x, YES, "again 2");
        T.asks(x, 9, "village 0 0");
        T.asks(x, 3, "act 2 NONE 0");
        T.asks(x, 1, "text 1 1");
        T.asks(x, 3, "act 1 NONE 0");
        T.asks(x, 4, "act 1 2 0");
        T.asks(x, YES, "again 1", "again 1");
        T.asks(x, 12, "end 12");
        emptyImageOverAll();
    }

    private static void emptyImageOverAll() {
        RingVillage x = new RingVillage();
        x.image(0);
        Telling.tell(x, 0, NONE, "people 9;fee 8 1;");
        Telling.tell(x, 1, NONE, "month;");
        Telling.tell(x, 1, NONE, "fail 9;");
        Telling.tape(x, "month;");
        x.image(1);
        T.asks(x, YES, "again 0");
        T.asks(x, 0, "count 0|1", "fault 0", "end 0");
        T.asks(x, NONE, "fault 1", "end 1", "village 0 0", "stop 0 0");
        T.asks(x, 0, "text 0|1 NONE");
        T.asks(x, 4, "village 0 0");
        T.asks(x, NONE, "village 0 18");
        T.asks(x, 0, "act 0 NONE 0");
        T.asks(x, YES, "again 1");
        T.asks(x, 1, "village 0 18", "count 0|1");
        T.asks(x, 6, "end 6");
    }

    private static void reads(int sort, String... texts) {
        for (String text : texts) {
            faulty(sort, text, 0, NONE);
        }
    }

    private static void faulty(int sort, String text, int fault, int place) {
        RingVillage x = new RingVillage();
        T.due("text(" + sort + ") of " + text, Telling.tell(x, sort, NONE, text), fault == 0 ? 0 : NONE);
        T.due("the fault of " + text, x.fault(0), fault);
        T.due("the place of " + text, x.fault(1), place);
        T.due("what stands behind " + text, x.count(sort), fault == 0 ? 1 : 0);
    }

    private static void term1Bytes() {
        for (int b = 0; b < 256; b++) {
            char sign = (char) b;
            boolean blank = b == 10 || b == 32;
            boolean letter = b >= 97 && b <= 122;
            boolean figure = b >= 48 && b <= 57;
            faulty(0, "" + sign, blank ? 0 : 1, blank ? NONE : 0);
            faulty(1, "month;" + sign, blank ? 0 : 1, blank ? NONE : 6);
            int behindWord = blank || b == 48 ? 0 : figure ? 2 : 1;
            faulty(0, "people" + sign + "3;", behindWord, behindWord == 0 ? NONE : letter ? 0 : 6);
            int behindNumber = blank ? 0 : figure ? 2 : 1;
            faulty(0, "people 3" + sign + ";", behindNumber, blank ? NONE : figure ? 7 : b == 59 ? 9 : 8);
        }
    }

    private static void term1Tokens() {
        reads(0, "people9;", "people 9 ;", "\n\npeople\n\n9\n\n;\n\n", " all 00 ; all 09;all 9;all 99;", "word0 1 5;fee0 1;want0 1 5 5;");
        reads(1, "owe0 1 5;", "month ;month\n;month;", "ring1 1 0 1;strike0;fail0;");
        faulty(0, "all 000;", 1, 4);
        faulty(0, "all 100;", 1, 4);
        faulty(0, "all 1 0;", 1, 6);
        faulty(0, "all 1" + "0".repeat(300) + ";", 1, 4);
        faulty(0, "people 3;people 333", 1, 16);
        faulty(1, "owe 01 2;", 1, 8);
        faulty(1, "owe 0 1 2monthly;", 1, 9);
        faulty(1, "mon th;", 1, 0);
        faulty(1, "monthmonth;", 1, 0);
        faulty(1, "month month;", 1, 6);
        faulty(0, "peoplepeople 3;", 1, 0);
        faulty(0, "wan 0 1 1 1;", 1, 0);
        faulty(0, "wants 0 1 1 1;", 1, 0);
        faulty(0, "a", 1, 0);
        faulty(0, "z", 1, 0);
        faulty(0, "p".repeat(600), 1, 0);
        faulty(1, ";".repeat(600), 1, 0);
        faulty(1, "month;;", 1, 6);
    }

    /** One letter that is another one, one too many or one too few: no such word. */
    private static void term1Words() {
        String[] villages = {"people 3;", "word 0 1 2;", "all 3;", "fee 0 1;", "risk 0 1;", "slack 3;", "want 0 1 2 3;"};
        String[] rows = {"owe 0 1 2;", "pay 0 1 2;", "ring 1 2 3 4;", "strike 0;", "fail 0;", "month;"};
        for (int sort = 0; sort < 2; sort++) {
            for (String text : sort == 0 ? villages : rows) {
                int letters = text.indexOf(' ') < 0 ? text.indexOf(';') : text.indexOf(' ');
                for (int i = 0; i < letters; i++) {
                    char other = text.charAt(i) == 'q' ? 'j' : 'q';
                    faulty(sort, text.substring(0, i) + other + text.substring(i + 1), 1, 0);
                    faulty(sort, text.substring(0, i) + other + text.substring(i), 1, 0);
                    faulty(sort, text.substring(0, i) + text.substring(i + 1), 1, 0);
                }
            }
        }
    }

    private static void term1LaterOnesStrike() {
        RingVillage x = new RingVillage();
        Telling.tell(x, 0, NONE, "people 9;people 2;people 3;slack 9;slack 0;fee 2 99;fee 2 0;fee 2 5;risk 2 99;risk 2 0;"
            + "word 0 1 9;word 0 1 8;word 1 0 7;all 6;word 2 0 1;all 4;word 2 1 0;want 0 1 1 1;want 0 1 1 1;want 0 1 2 2;");
        T.asks(x, 3, "village 0 0|1");
        T.asks(x, 0, "village 0 2|22", "word 0 2 1");
        T.asks(x, 5, "village 0 12");
        T.asks(x, 4, "word 0 0 1|2", "word 0 1 0|2", "word 0 2 0");
        T.asks(x, 1, "want 0 0|1 2|3");
        T.asks(x, 2, "want 0 2 2|3");
        RingVillage y = new RingVillage();
        Telling.tell(y, 1, NONE, "month;month;owe 0 1 1;owe 0 1 1;");
        T.asks(y, 4, "act 0 NONE 0");
    }

    private static void term1NumbersOfVillages() {
        reads(0, "people 2;", "people 9;", "people 02;", "people 09;", "slack 0;", "slack 9;", "slack 09;", "all 0;", "all 99;");
        for (int n = 0; n < 100; n++) {
            boolean one = n >= 2 && n <= 9;
            faulty(0, "people " + n + ";", one ? 0 : 2, one ? NONE : 7);
            faulty(0, "slack " + n + ";", n < 10 ? 0 : 2, n < 10 ? NONE : 6);
            faulty(0, "people 9;fee " + n + " 1;", n < 9 ? 0 : 2, n < 9 ? NONE : 13);
            faulty(0, "people 9;risk " + n + " 1;", n < 9 ? 0 : 2, n < 9 ? NONE : 14);
        }
        reads(0, "people 9;word 8 0 0;word 0 8 99;", "people 9;want 8 0 1 0;want 0 8 99 99;", "fee 0 0;fee 0 99;risk 3 0;risk 3 99;");
        faulty(0, "word 9 8 5;", 2, 5);
        faulty(0, "word 8 9 5;", 2, 7);
        faulty(0, "word 8 8 5;", 2, 7);
        faulty(0, "word 99 99 5;", 2, 5);
        faulty(0, "word 00 0 5;", 2, 8);
        faulty(0, "word 0 1 100;", 1, 9);
        faulty(0, "want 9 8 1 1;", 2, 5);
        faulty(0, "want 8 9 1 1;", 2, 7);
        faulty(0, "want 8 8 1 1;", 2, 7);
        faulty(0, "want 9 9 0 1;", 2, 5);
        faulty(0, "want 8 0 0 1;", 2, 9);
        faulty(0, "want 8 0 00 1;", 2, 9);
        faulty(0, "want 0 1 100 1;", 1, 9);
        faulty(0, "want 0 1 1 100;", 1, 11);
        faulty(0, "fee 0 100;", 1, 6);
        faulty(0, "risk 0 100;", 1, 7);
        faulty(0, "slack 100;", 1, 6);
    }

    private static void term1NumbersOfRows() {
        for (int n = 0; n < 100; n++) {
            faulty(1, "strike " + n + ";", n < 30 ? 0 : 2, n < 30 ? NONE : 7);
            faulty(1, "fail " + n + ";", n < 9 ? 0 : 2, n < 9 ? NONE : 5);
        }
        reads(1, "owe 8 0 1;owe 0 8 99;", "pay 8 0 1;pay 0 8 99;", "ring 1 0 8 0;ring 99 99 0 8;", "ring 1 1 0 1 2 3 4 5;ring 8 7 8 7 6 5 4 3;");
        for (String verb : new String[] {"owe", "pay"}) {
            faulty(1, verb + " 9 8 1;", 2, 4);
            faulty(1, verb + " 8 9 1;", 2, 6);
            faulty(1, verb + " 8 8 1;", 2, 6);
            faulty(1, verb + " 9 9 0;", 2, 4);
            faulty(1, verb + " 8 0 0;", 2, 8);
            faulty(1, verb + " 8 0 100;", 1, 8);
        }
        faulty(1, "ring 0 0 0 1;", 2, 5);
        faulty(1, "ring 00 0 0 1;", 2, 5);
        faulty(1, "ring 100 0 0 1;", 1, 5);
        faulty(1, "ring 1 100 0 1;", 1, 7);
        int[] places = {9, 11, 13, 15, 17, 19};
        String[] who = {"0", "1", "2", "3", "4", "5"};
        for (int i = 0; i < places.length; i++) {
            faulty(1, ringWith(who, i, "8"), 0, NONE);
            faulty(1, ringWith(who, i, "9"), 2, places[i]);
            faulty(1, ringWith(who, i, "99"), 2, places[i]);
            for (int k = 0; k < i; k++) {
                faulty(1, ringWith(who, i, who[k]), 2, places[i]);
            }
        }
        faulty(1, "strike 100;", 1, 7);
        faulty(1, "fail 000;", 1, 5);
    }

    private static String ringWith(String[] who, int at, String other) {
        StringBuilder text = new StringBuilder("ring 1 1");
        for (int i = 0; i < who.length; i++) {
            text.append(' ').append(i == at ? other : who[i]);
        }
        return text.append(';').toString();
    }

    private static void term1HowManyNumbers() {
        String[] villages = {"people 3", "word 0 1 2", "all 3", "fee 0 1", "risk 0 1", "slack 3", "want 0 1 2 3"};
        String[] rows = {"owe 0 1 2", "pay 0 1 2", "ring 1 2 3 4", "strike 0", "fail 0", "month"};
        for (int sort = 0; sort < 2; sort++) {
            for (String text : sort == 0 ? villages : rows) {
                reads(sort, text + ";", text + ";" + text + " ;");
                faulty(sort, text, 1, text.length());
                faulty(sort, text + "\n ", 1, text.length() + 2);
                faulty(1 - sort, text + ";", 1, 0);
                faulty(sort, text + ";x", 1, text.length() + 1);
                faulty(sort, text + " x;", 1, text.length() + 1);
                for (int cut = text.lastIndexOf(' '); cut > 0; cut = text.lastIndexOf(' ', cut - 1)) {
                    faulty(sort, text.substring(0, cut) + ";", 1, cut);
                    faulty(sort, text.substring(0, cut), 1, cut);
                }
                if (!text.startsWith("ring")) {
                    faulty(sort, text + " 5;", 1, text.length() + 1);
                }
            }
        }
    }

    private static void term1TooMany() {
        reads(0, WANT.repeat(7), "all 1;".repeat(100));
        faulty(0, WANT.repeat(8), 3, 91);
        faulty(0, WANT.repeat(7) + "all 1;" + WANT.repeat(2), 3, 97);
        faulty(0, WANT.repeat(7) + "want 9 9 0 1;", 3, 91);
        faulty(0, WANT.repeat(7) + "people 1;" + WANT, 2, 98);
        faulty(0, WANT.repeat(7) + "want 0 1 1;", 1, 101);
        for (String act : new String[] {"owe 0 1 1;", "pay 0 1 1;", "ring 1 1 0 1;", "strike 0;", "fail 0;", "month;"}) {
            reads(1, "month;".repeat(29) + act);
            faulty(1, "month;".repeat(30) + act, 3, 180);
            faulty(1, act.repeat(31), 3, act.length() * 30);
        }
        faulty(1, "month;".repeat(30) + "\n strike 30;", 3, 182);
        faulty(1, "month;".repeat(29) + "strike 30;month;", 2, 181);
        faulty(1, "month;".repeat(30) + "month", 1, 185);
        faulty(1, "ring 1 1 0 1 2 3 4 5 6;", 3, 21);
        faulty(1, "ring 1 1 0 1 2 3 4 5 6 7 8;", 3, 21);
        faulty(1, "ring 1 1 0 1 2 3 4 5 9;", 2, 21);
        faulty(1, "ring 1 1 0 1 2 3 4 5 0;", 2, 21);
        faulty(1, "ring 1 1 0 1 2 3 4 5 6 6 99;", 3, 21);
        faulty(1, "ring 1 1 0 1 2 3 4 4 6;", 2, 19);
        faulty(1, "ring 1 1 0 1 2 3 4 5 6", 1, 22);
        faulty(1, "ring 1 1 0 1 2 3 4 5 6 100;", 1, 23);
        faulty(1, "month;".repeat(30) + "ring 1 1 0 1 2 3 4 5 6;", 3, 180);
        faulty(1, "ring 1 1 0 1 2 3 4 5 6;" + "month;".repeat(30), 3, 21);
    }

    private static void term1FaultsByPlace() {
        faulty(0, "people 1;slack 10;", 2, 7);
        faulty(0, "slack 10;people 1;", 2, 6);
        faulty(0, "people 1;moon", 1, 9);
        faulty(0, "people 1;people 100;", 1, 16);
        faulty(0, "fee 8 1;moon;", 1, 8);
        faulty(0, "fee 8 1;people 1;", 2, 15);
        faulty(0, "fee 8 1;" + WANT.repeat(8), 3, 99);
        faulty(0, "moon;people", 1, 0);
        faulty(0, "#people 1;", 1, 0);
        faulty(1, "fail 9;strike 30;owe 0 0 0;", 2, 5);
        faulty(1, "owe 0 0 0;fail 9;", 2, 6);
        faulty(1, "owe 0 1 0;#", 1, 10);
    }

    private static void term1NoneOfPeople() {
        String[] told = {"word 0 P 1", "word P 0 0", "fee P 0", "risk P 0", "want 0 P 1 0", "want P 0 1 0"};
        for (String each : told) {
            for (int people = 2; people <= 8; people++) {
                String last = each.replace("P", "" + (people - 1)) + ";";
                String further = each.replace("P", "" + people) + ";";
                String size = "people " + people + ";";
                reads(0, size + last, last + size, further + size + "people 9;");
                faulty(0, size + further, 4, (size + further).length());
                faulty(0, further + size, 4, (further + size).length());
                faulty(0, further + "people 9;" + size + " ", 4, (further + size).length() + 10);
            }
            reads(0, each.replace("P", "3") + ";", "people 9;" + each.replace("P", "8") + ";");
            faulty(0, each.replace("P", "4") + ";", 4, each.length() + 1);
        }
        faulty(0, "word 0 4 1;all 1;", 4, 17);
        faulty(0, "fee 4 1;fee 3 1;", 4, 16);
        reads(0, "people 2;all 9;", "all 9;people 2;");
        reads(1, "owe 8 7 1;pay 8 7 1;ring 1 1 8 7 6 5 4 3;fail 8;strike 29;");
    }

    private static void term1SixHundredBytes() {
        RingVillage x = new RingVillage();
        T.due("the last byte counts", Telling.tell(x, 0, NONE, " ".repeat(591) + "people 7;"), 0);
        T.asks(x, 7, "village 0 0");
        faulty(0, " ".repeat(592) + "people 7", 1, 600);
        faulty(0, " ".repeat(591) + "people 1;", 2, 598);
        faulty(0, "fee 8 1;" + "\n".repeat(592), 4, 600);
        faulty(0, " ".repeat(599) + "x", 1, 599);
        faulty(0, " ".repeat(598) + "al", 1, 598);
        faulty(1, "month;".repeat(100), 3, 180);
        faulty(1, "month;".repeat(99) + "month ", 1, 600);
        reads(0, "all 1;".repeat(100), " ".repeat(600), "\n".repeat(600));
    }

    private static void the512thCall() {
        RingVillage x = new RingVillage();
        Telling.tell(x, 0, NONE, "people 7;");
        for (int call = 5; call < 512; call++) {
            x.word(0, call % 7, 6);
        }
        T.asks(x, 7, "village 0 0");
    }
}
