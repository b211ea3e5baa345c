import java.nio.charset.StandardCharsets;

/** What the tests have in common: texts told by feed(), end() and text(), and answers that are due. */
final class Telling {
    private static final int FED = 20;

    private final String name;
    private int asked;
    private int wrong;

    Telling(String name) {
        this.name = name;
    }

    void due(String call, long got, long want) {
        asked++;
        if (got != want) {
            wrong++;
            System.out.println(name + ": " + call + " answered " + got + ", due is " + want);
        }
    }

    void due(String call, boolean got, boolean want) {
        due(call, got ? 1L : 0L, want ? 1L : 0L);
    }

    void close() {
        System.out.println(name + ": " + asked + " answers, " + wrong + " wrong");
        if (wrong != 0) {
            System.exit(1);
        }
    }

    static void tape(RingVillage x, String text) {
        byte[] bytes = text.getBytes(StandardCharsets.ISO_8859_1);
        int[] fed = new int[5];
        int before = 0;
        for (int i = 0; i < bytes.length; i += FED) {
            for (int k = 0; k < 5; k++) {
                fed[k] = 0;
                for (int m = 0; m < 4; m++) {
                    int at = i + 4 * k + m;
                    fed[k] = fed[k] << 8 | (at < bytes.length ? bytes[at] & 255 : 0);
                }
            }
            before = x.feed(fed[0], fed[1], fed[2], fed[3], fed[4]);
        }
        if (before >= 0) {
            x.end(bytes.length);
        }
    }

    static int tell(RingVillage x, int sort, int at, String text) {
        x.end(0);
        tape(x, text);
        return x.text(sort, at);
    }

    static RingVillage with(String village, String row) {
        RingVillage x = new RingVillage();
        int v = tell(x, 0, RingVillage.NONE, village);
        int r = tell(x, 1, RingVillage.NONE, row);
        if (v != 0 || r != 0) {
            throw new IllegalStateException("not told: " + village + " / " + row + " (" + v + ", " + r + ")");
        }
        return x;
    }
}
