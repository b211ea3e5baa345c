import java.lang.reflect.Method;
import java.nio.charset.StandardCharsets;
import java.util.ArrayList;
import java.util.HashMap;
import java.util.List;
import java.util.Map;

/** What the tests have in common: texts told by feed(), end() and text(), and answers that are due. */
final class Telling {
    private static final int FED = 20;
    private static final Map<String, Method> CALLS = new HashMap<>();

    static {
        for (Method m : RingVillage.class.getMethods()) {
            CALLS.put(m.getName(), m);
        }
    }

    private final String name;
    private int asked;
    private int wrong;

    Telling(String name) {
        this.name = name;
    }

    void due(String call, long got, long want) {
        asked++;
        if (got != want) {
            wrong++;
            System.out.println(name + ": " + call + " answered " + got + ", due is " + want);
        }
    }

    void due(String call, boolean got, boolean want) {
        due(call, got ? 1L : 0L, want ? 1L : 0L);
    }

    /** Each of these calls, written as ask() and spread() read them, has this answer. */
    void asks(RingVillage x, long want, String... calls) {
        for (String call : calls) {
            for (String each : spread(call)) {
                due(each, ask(x, each), want);
            }
        }
    }

    /** "owes 0 0 1 0|2 4|5" is four calls: with 0 and with 2, each with 4 and with 5. */
    static List<String> spread(String call) {
        List<String> all = new ArrayList<>();
        all.add("");
        for (String word : call.split(" ")) {
            List<String> longer = new ArrayList<>();
            for (String before : all) {
                for (String each : word.split("\\|")) {
                    longer.add(before.isEmpty() ? each : before + " " + each);
                }
            }
            all = longer;
        }
        return all;
    }

    /** A call as its name and its numbers, MIN and MAX being the least and the greatest int; true counts 1, false 0. */
    static long ask(RingVillage x, String call) {
        String[] words = call.split(" ");
        Method m = CALLS.get(words[0]);
        if (m == null || m.getParameterCount() != words.length - 1) {
            throw new IllegalStateException("no such call: " + call);
        }
        Object[] numbers = new Object[words.length - 1];
        for (int i = 0; i < numbers.length; i++) {
            numbers[i] = m.getParameterTypes()[i] == boolean.class ? (Object) flag(words[i + 1]) : (Object) number(words[i + 1]);
        }
        try {
            Object got = m.invoke(x, numbers);
            return got instanceof Boolean ? ((Boolean) got ? 1 : 0) : ((Number) got).longValue();
        } catch (ReflectiveOperationException e) {
            throw new IllegalStateException(call + " threw", e);
        }
    }

    private static boolean flag(String word) {
        if (!word.equals("true") && !word.equals("false")) {
            throw new IllegalStateException("neither true nor false: " + word);
        }
        return word.equals("true");
    }

    private static int number(String word) {
        switch (word) {
            case "MIN": return Integer.MIN_VALUE;
            case "MAX": return Integer.MAX_VALUE;
            case "NONE": return RingVillage.NONE;
            default: return Integer.parseInt(word);
        }
    }

    void close() {
        System.out.println(name + ": " + asked + " answers, " + wrong + " wrong");
        if (wrong != 0) {
            System.exit(1);
        }
    }

    static void tape(RingVillage x, String text) {
        byte[] bytes = text.getBytes(StandardCharsets.ISO_8859_1);
        int[] fed = new int[5];
        int before = 0;
        for (int i = 0; i < bytes.length; i += FED) {
            for (int k = 0; k < 5; k++) {
                fed[k] = 0;
                for (int m = 0; m < 4; m++) {
                    int at = i + 4 * k + m;
                    fed[k] = fed[k] << 8 | (at < bytes.length ? bytes[at] & 255 : 0);
                }
            }
            before = x.feed(fed[0], fed[1], fed[2], fed[3], fed[4]);
        }
        if (before >= 0) {
            x.end(bytes.length);
        }
    }

    static int tell(RingVillage x, int sort, int at, String text) {
        x.end(0);
        tape(x, text);
        return x.text(sort, at);
    }

    static RingVillage with(String village, String row) {
        RingVillage x = new RingVillage();
        int v = tell(x, 0, RingVillage.NONE, village);
        int r = tell(x, 1, RingVillage.NONE, row);
        if (v != 0 || r != 0) {
            throw new IllegalStateException("not told: " + village + " / " + row + " (" + v + ", " + r + ")");
        }
        return x;
    }
}
