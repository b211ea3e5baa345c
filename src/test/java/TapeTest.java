import java.nio.charset.StandardCharsets;
import java.util.ArrayList;
import java.util.Arrays;
import java.util.List;
import java.util.Random;

/** Promises 1 to 5 and 41 to 43 as drawn rows of calls, beside a plain telling of what the document says of the tape. */
public final class TapeTest {
    private static final int NONE = RingVillage.NONE;
    private static final int MOST = 600;
    private static final Telling T = new Telling("TapeTest");

    /** A text and what is due of it as a village and as a row: the fault, its place, and a number by which it is known. */
    private record Text(String told, int villageFault, int villagePlace, int people, int rowFault, int rowPlace, int acts) {
    }

    private static final Text[] TEXTS = {
        new Text("", 0, NONE, 4, 0, NONE, 0),
        new Text(" \n ", 0, NONE, 4, 0, NONE, 0),
        new Text("people 7;", 0, NONE, 7, 1, 0, 0),
        new Text("people 2;people 9;", 0, NONE, 9, 1, 0, 0),
        new Text("people 1;", 2, 7, 0, 1, 0, 0),
        new Text("people 3;fee 3 1; ", 4, 18, 0, 1, 0, 0),
        new Text("month;", 1, 0, 0, 0, NONE, 1),
        new Text("month;month;fail 8;", 1, 0, 0, 0, NONE, 3),
        new Text("month;fail 9;", 1, 0, 0, 2, 11, 0),
        new Text("month;moon;", 1, 0, 0, 1, 6, 0),
        new Text("month", 1, 0, 0, 1, 5, 0),
    };

    private static final class Model {
        private byte[] tape = new byte[0];
        private List<Integer> people = new ArrayList<>();
        private List<Integer> acts = new ArrayList<>();
        private int fault;
        private int place = NONE;

        Model copy() {
            Model m = new Model();
            m.tape = tape.clone();
            m.people = new ArrayList<>(people);
            m.acts = new ArrayList<>(acts);
            m.fault = fault;
            m.place = place;
            return m;
        }

        int feed(byte[] twenty) {
            if (tape.length + twenty.length > MOST) {
                return NONE;
            }
            byte[] longer = Arrays.copyOf(tape, tape.length + twenty.length);
            System.arraycopy(twenty, 0, longer, tape.length, twenty.length);
            tape = longer;
            return tape.length;
        }

        int end(int n) {
            if (n < 0 || n > tape.length) {
                return NONE;
            }
            tape = Arrays.copyOf(tape, n);
            return n;
        }

        int text(int sort, int at) {
            String taken = new String(tape, StandardCharsets.ISO_8859_1);
            tape = new byte[0];
            fault = 0;
            place = NONE;
            if (sort != 0 && sort != 1) {
                return -2;
            }
            List<Integer> of = sort == 0 ? people : acts;
            if (at < NONE || at >= of.size() || at == NONE && of.size() == (sort == 0 ? 2 : 3)) {
                return -2;
            }
            judge(taken, sort);
            if (fault != 0) {
                return NONE;
            }
            int number = at == NONE ? of.size() : at;
            if (at == NONE) {
                of.add(0);
            }
            of.set(number, knownBy(taken, sort));
            return number;
        }

        private void judge(String taken, int sort) {
            fault = 1;
            place = 0;
            for (Text t : TEXTS) {
                if (t.told.equals(taken)) {
                    fault = sort == 0 ? t.villageFault : t.rowFault;
                    place = sort == 0 ? t.villagePlace : t.rowPlace;
                }
            }
        }

        private static int knownBy(String taken, int sort) {
            for (Text t : TEXTS) {
                if (t.told.equals(taken)) {
                    return sort == 0 ? t.people : t.acts;
                }
            }
            throw new IllegalStateException(taken);
        }
    }

    private static final class Run {
        private final Random drawn;
        private final RingVillage x = new RingVillage();
        private Model m = new Model();
        private final Model[] images = new Model[3];
        private final String name;

        Run(int seed) {
            drawn = new Random(seed);
            name = "seed " + seed + ", ";
        }

        private void feed(byte[] twenty) {
            int[] f = new int[5];
            for (int i = 0; i < twenty.length; i++) {
                f[i / 4] = f[i / 4] << 8 | twenty[i] & 255;
            }
            T.due(name + "feed", x.feed(f[0], f[1], f[2], f[3], f[4]), m.feed(twenty));
        }

        private void end(int n) {
            T.due(name + "end " + n, x.end(n), m.end(n));
        }

        /** The model knows whole texts, and tapes whose first byte is no token's. */
        private void dropLaidText() {
            if (m.tape.length > 0 && m.tape[0] != '?') {
                end(0);
            }
        }

        private void lay(String text) {
            end(0);
            byte[] all = Arrays.copyOf(text.getBytes(StandardCharsets.ISO_8859_1), (text.length() + 19) / 20 * 20);
            for (int i = 0; i < all.length; i += 20) {
                feed(Arrays.copyOfRange(all, i, i + 20));
            }
            end(text.length());
        }

        private void text(int sort, int at) {
            T.due(name + "text " + sort + " " + at, x.text(sort, at), m.text(sort, at));
        }

        private void images(int k, boolean keep) {
            boolean is = k >= 0 && k < 3;
            if (keep) {
                T.due(name + "image " + k, x.image(k), is);
                if (is) {
                    images[k] = m.copy();
                }
                return;
            }
            T.due(name + "again " + k, x.again(k), is && images[k] != null);
            if (is && images[k] != null) {
                m = images[k].copy();
            }
        }

        private void look() {
            T.due(name + "fault 0", x.fault(0), m.fault);
            T.due(name + "fault 1", x.fault(1), m.place);
            T.due(name + "count 0", x.count(0), m.people.size());
            T.due(name + "count 1", x.count(1), m.acts.size());
            for (int i = 0; i < 3; i++) {
                T.due(name + "village " + i, x.village(i, 0), i < m.people.size() ? m.people.get(i) : NONE);
                T.due(name + "row " + i, x.act(i, NONE, 0), i < m.acts.size() ? m.acts.get(i) : -2);
            }
        }

        private void step() {
            switch (drawn.nextInt(8)) {
                case 0:
                    dropLaidText();
                    feed(new byte[] {'?', 0, -1, -128, 127, '?', 0, 0, 0, 0, 0, 0, 0, 0, 0, 0, 0, 0, 0, '?'});
                    break;
                case 1:
                    end(drawn.nextInt(4) == 0 ? 0 : drawn.nextInt(m.tape.length + 3) - 1);
                    dropLaidText();
                    break;
                case 2:
                case 3:
                case 4:
                    images(drawn.nextInt(5) == 0 ? drawn.nextInt(5) - 1 : drawn.nextInt(2), drawn.nextBoolean());
                    break;
                case 5:
                    text(drawn.nextInt(4) - 1, drawn.nextInt(6) - 2);
                    break;
                default:
                    lay(TEXTS[drawn.nextInt(TEXTS.length)].told);
                    if (drawn.nextInt(4) != 0) {
                        text(drawn.nextInt(8) == 0 ? 2 : drawn.nextInt(2), drawn.nextInt(5) - 2);
                    }
                    break;
            }
        }
    }

    private TapeTest() {
    }

    private static void drawnRuns() {
        for (int seed = 0; seed < 300; seed++) {
            Run run = new Run(seed);
            run.look();
            for (int step = 0; step < 20; step++) {
                run.step();
                run.look();
            }
        }
    }

    private static void fullTapes() {
        Run run = new Run(NONE);
        for (int i = 0; i < 32; i++) {
            run.feed(new byte[20]);
        }
        run.end(581);
        run.feed(new byte[20]);
        run.end(580);
        run.feed(new byte[20]);
        run.text(0, 5);
        run.feed(new byte[20]);
        run.look();
    }

    public static void main(String[] args) {
        drawnRuns();
        fullTapes();
        T.close();
    }
}
