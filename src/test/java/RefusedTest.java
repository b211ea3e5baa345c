import java.util.ArrayList;
import java.util.List;

/** What a call leaves as it was: one that is refused changes nothing, and one that asks changes nothing either. */
public final class RefusedTest {
    private static final int NONE = RingVillage.NONE;
    private static final Telling T = new Telling("RefusedTest");
    private static final String STATE = "0 0 2";

    public static void main(String[] args) {
        refusedOfWhatIsTold();
        refusedOfStates();
        askedOfStates();
        fullTapes();
        refusedTexts();
        T.close();
    }

    /** A village, a row, an image of the village alone, a FAULT, and a text on the tape that is not yet taken. */
    private static RingVillage told() {
        RingVillage x = new RingVillage();
        Telling.tell(x, 0, NONE, "people 3;all 4;slack 1;fee 2 7;risk 1 8;want 0 1 2 3;want 1 2 4 9;");
        x.image(0);
        Telling.tell(x, 1, NONE, "ring 1 1 0 1 2;owe 0 1 1;month;month;");
        Telling.tell(x, 1, NONE, "fail 9;");
        Telling.tape(x, "month;pay 0 1 1;fail 2;");
        return x;
    }

    /** All that can be seen of what is told; it is seen last, for the tape is taken by it. */
    private static List<Long> look(RingVillage x) {
        List<Long> seen = new ArrayList<>();
        lookAtTold(x, seen);
        lookAtTape(x, seen);
        for (int k = 0; k < 3; k++) {
            see(x, seen, "again " + k);
            lookAtTold(x, seen);
            lookAtTape(x, seen);
        }
        return seen;
    }

    private static void see(RingVillage x, List<Long> seen, String... calls) {
        for (String call : calls) {
            for (String each : Telling.spread(call)) {
                seen.add(Telling.ask(x, each));
            }
        }
    }

    private static void lookAtTold(RingVillage x, List<Long> seen) {
        see(x, seen, "count 0|1", "fault 0|1", "village 0 0|1|2|12|21", "word 0 0|1|2 0|2", "want 0 0|1 0|2|3", "act 0 NONE 0", "act 0 0|1|2|3 0|1|3",
            "stop 0 0", "state 0 0 2|4 0|2|3", "one 0 0 1 0 0|1|12");
    }

    private static void lookAtTape(RingVillage x, List<Long> seen) {
        see(x, seen, "end 600|24|23", "text 1 NONE", "act 1 NONE 0", "act 1 0|1|2 0|1", "count 1");
    }

    private static void leavesAll(List<Long> before, String... calls) {
        for (String call : calls) {
            for (String each : Telling.spread(call)) {
                RingVillage x = told();
                long first = Telling.ask(x, each);
                T.due(each + " asked again", Telling.ask(x, each), first);
                T.due(each + " leaves all as it was", look(x).equals(before), true);
            }
        }
    }

    private static void refusedOfWhatIsTold() {
        List<Long> before = look(told());
        leavesAll(before, "end -1|24|600|MIN|MAX", "image -1|3|MIN|MAX", "again -1|1|2|3|MIN|MAX", "fault -1|2", "count -1|2", "village 1 0",
            "village 0 -1|3|13|23", "word 0 3 0", "word 1 0 0", "want 0 2 0", "want 0 0 4", "act 0 4 0", "act 1 NONE 0", "act 0 0 9", "stop 1 0", "stop 0 1",
            "hour 1 0", "hour 0 1", "least 1|-1");
        leavesAll(before, "end 23", "fault 0|1", "count 0|1", "village 0 0", "word 0 0 1", "want 0 0 0", "act 0 NONE 0", "stop 0 0", "hour 0 0", "least 0");
    }

    private static void refusedOfStates() {
        List<Long> before = look(told());
        String nowhere = "1 0 0";
        leavesAll(before, "owes " + nowhere + " 0 1", "room " + nowhere + " 0 1", "over " + nowhere + " 0", "lawful " + nowhere, "state " + nowhere + " 0",
            "ring " + nowhere + " 0 0", "find " + nowhere + " 0 0 0", "stands " + nowhere + " 0 0 true", "bars " + nowhere + " 0", "much " + nowhere + " 0",
            "had " + nowhere + " 1 true", "most " + nowhere + " true true", "shilling " + nowhere, "worth " + nowhere + " 0", "need " + nowhere + " 1",
            "falls " + nowhere + " 0 true", "rest " + nowhere + " 0 0", "early " + nowhere + " 0 1 1", "stranger " + nowhere + " 0 2 1",
            "months " + nowhere + " 1 1 0", "one " + nowhere + " 0 0", "gap " + nowhere, "tight " + nowhere + " 0 1", "opens " + nowhere + " true",
            "roll " + nowhere + " 1", "lent " + nowhere + " 0 1", "weak " + nowhere + " true", "take " + nowhere + " 2 1 1");
        leavesAll(before, "owes " + STATE + " 3 0", "state " + STATE + " 11", "ring " + STATE + " 1 0", "find " + STATE + " 2 0 0", "find " + STATE + " 0 3 0",
            "stands " + STATE + " 2 0 true", "bars " + STATE + " 2", "much " + STATE + " 2", "had " + STATE + " 4 false", "worth " + STATE + " 3",
            "need " + STATE + " 4", "falls " + STATE + " 3 false", "rest " + STATE + " 0 3", "early " + STATE + " 0 1 100", "stranger " + STATE + " 0 7 1",
            "months " + STATE + " 1 25 0", "months " + STATE + " 1 24 4", "one " + STATE + " 3 0", "one " + STATE + " 0 13", "tight " + STATE + " 0 0",
            "roll " + STATE + " 1000", "lent " + STATE + " 0 0", "take " + STATE + " 2 11 1", "take " + STATE + " 7 1 1");
    }

    private static void askedOfStates() {
        List<Long> before = look(told());
        leavesAll(before, "owes " + STATE + " 0 1", "room " + STATE + " 0 1", "over " + STATE + " 0", "lawful " + STATE,
            "state " + STATE + " 0|1|2|3|4|5|6|7|8|9|10", "ring " + STATE + " 0 0|3|10", "find " + STATE + " 0|1 0|1|2 0", "stands " + STATE + " 0 0|1|2 false",
            "bars " + STATE + " 0|1", "much " + STATE + " 0|1", "had " + STATE + " 0|1|2|3 false|true", "most " + STATE + " false|true false|true",
            "shilling " + STATE, "worth " + STATE + " 0|1|2", "need " + STATE + " 0|1|2|3", "falls " + STATE + " 0|2 false|true", "rest " + STATE + " 0|1 0|1|2",
            "early " + STATE + " 0 1 1|2", "stranger " + STATE + " 0 2|6 0|1", "months " + STATE + " 1 0|1|24 0|1|2|3", "one " + STATE + " 0|1|2 0|1|12",
            "gap " + STATE, "tight " + STATE + " 0|1 2", "opens " + STATE + " false|true", "roll " + STATE + " 0|1|999", "lent " + STATE + " 0|1 2",
            "weak " + STATE + " false|true", "take " + STATE + " 2|3 12 1");
    }

    private static void fullTapes() {
        for (int length = 581; length <= 600; length++) {
            String text = "month;pay 0 1 1;fail 2;" + " ".repeat(length - 23);
            RingVillage x = told();
            RingVillage y = told();
            x.end(0);
            y.end(0);
            Telling.tape(x, text);
            Telling.tape(y, text);
            T.due("a feed behind " + length + " is refused", x.feed(-1, -1, -1, -1, -1), NONE);
            T.due("it leaves all as it was", look(x).equals(look(y)), true);
        }
    }

    /** These take the tape and the FAULT with it, and leave all else. */
    private static void refusedTexts() {
        RingVillage y = told();
        y.end(0);
        List<Long> bare = look(y);
        for (String call : Telling.spread("text 0|1 1|-2|MIN|MAX")) {
            RingVillage x = told();
            T.due(call, Telling.ask(x, call), -2);
            T.due("the fault behind " + call, x.fault(0), 0);
            Telling.tell(x, 1, 0, "fail 9;");
            T.due("all else behind " + call, look(x).equals(bare), true);
        }
        for (String text : new String[] {"moon;", "people 1;", "owe 0 0 0;", "fee 8 1;", "month;".repeat(31)}) {
            for (String call : new String[] {"text 0 0", "text 1 0", "text 0 NONE", "text 1 NONE"}) {
                RingVillage x = told();
                x.end(0);
                Telling.tape(x, text);
                T.due(call + " of " + text, Telling.ask(x, call), NONE);
                T.due("a fault behind " + call, x.fault(0) > 0, true);
                Telling.tell(x, 1, 0, "fail 9;");
                T.due("all else behind " + call, look(x).equals(bare), true);
            }
        }
    }
}
