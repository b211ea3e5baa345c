import java.util.Random;

/** Promises 10 to 40 on villages drawn by fixed seeds: each answer against PlainVillage's. */
public final class PlainTest {
    private static final int NONE = RingVillage.NONE;
    private static final int NO_STATE = -100000;
    private static final Telling T = new Telling("PlainTest");

    public static void main(String[] args) {
        int many = args.length > 0 ? Integer.parseInt(args[0]) : 240;
        int first = args.length > 1 ? Integer.parseInt(args[1]) : 0;
        for (int seed = first; seed < first + many; seed++) {
            new PlainTest(seed).run();
        }
        T.close();
    }

    private final Random random;
    private final PlainVillage plain = new PlainVillage();
    private final boolean small;
    private RingVillage x;
    private String about;

    private PlainTest(int seed) {
        random = new Random(seed * 7919L + 17);
        small = seed % 3 == 0;
        about = "seed " + seed;
    }

    private int upTo(int n) {
        return random.nextInt(n + 1);
    }

    private int other(int p) {
        int q = random.nextInt(plain.people - 1);
        return q < p ? q : q + 1;
    }

    private void drawVillage() {
        plain.people = small ? 2 + upTo(2) : 2 + upTo(7);
        plain.slack = random.nextBoolean() ? 0 : upTo(4);
        int most = small ? 1 + upTo(4) : 1 + upTo(25);
        int base = random.nextInt(5) < 3 ? upTo(most) : 0;
        for (int a = 0; a < plain.people; a++) {
            for (int b = 0; b < plain.people; b++) {
                plain.takes[a][b] = a == b ? 0 : base;
            }
        }
        int words = upTo(Math.min(28, plain.people * plain.people));
        for (int i = 0; i < words; i++) {
            int a = random.nextInt(plain.people);
            plain.takes[a][other(a)] = upTo(most);
        }
        for (int p = 0; p < plain.people; p++) {
            plain.fee[p] = random.nextInt(3) == 0 ? upTo(random.nextBoolean() ? 3 : 99) : 0;
            plain.risk[p] = random.nextInt(3) == 0 ? upTo(random.nextBoolean() ? 20 : 99) : 0;
        }
        int wants = small ? upTo(4) : upTo(7);
        for (int i = 0; i < wants; i++) {
            int a = random.nextInt(plain.people);
            int n = 1 + upTo(Math.max(1, most / 2));
            plain.wants.add(new int[] {a, other(a), n, random.nextInt(4) == 0 ? 0 : upTo(12)});
        }
    }

    private int[] drawAct() {
        int most = small ? 2 : 6;
        int a = random.nextInt(20) == 0 ? upTo(8) : random.nextInt(plain.people);
        int kind = random.nextInt(16);
        if (kind < 5) {
            int b = a < plain.people ? other(a) : 0;
            return new int[] {0, a, b, 1 + upTo(most)};
        }
        if (kind < 7) {
            int b = a < plain.people ? other(a) : 0;
            return new int[] {1, a, b, 1 + upTo(most)};
        }
        if (kind < 12) {
            int many = Math.min(plain.people, 2 + upTo(4));
            int[] act = new int[3 + many];
            act[0] = 2;
            act[1] = 1 + upTo(most);
            act[2] = random.nextBoolean() ? upTo(3) : upTo(99);
            int seen = 0;
            for (int i = 0; i < many; i++) {
                int p = random.nextInt(plain.people);
                while ((seen >> p & 1) == 1) {
                    p = random.nextInt(plain.people);
                }
                seen |= 1 << p;
                act[3 + i] = p;
            }
            return act;
        }
        if (kind < 14) {
            return new int[] {3, random.nextInt(4) == 0 ? upTo(29) : upTo(Math.max(0, plain.rings.size()))};
        }
        return kind < 15 && random.nextBoolean() ? new int[] {4, a} : new int[] {5};
    }

    private void drawRow() {
        plain.restart();
        int many = upTo(random.nextBoolean() ? 8 : 24);
        int tries = 0;
        while (plain.acts.size() < many && tries < 400) {
            tries++;
            int[] act = drawAct();
            boolean can = plain.doAct(act);
            if (can || random.nextInt(300) == 0) {
                plain.acts.add(act);
            }
        }
    }

    private void run() {
        drawVillage();
        drawRow();
        String village = plain.villageText();
        String row = plain.rowText();
        if (village.length() > 600 || row.length() > 600) {
            return;
        }
        about = about + " <" + village + "> <" + row + ">";
        int stop = plain.stop();
        x = Telling.with(village, row);
        due("stop", x.stop(0, 0), stop);
        due("hour", x.hour(0, 0), plain.hour());
        x = Telling.with(village, row);
        due("least", x.least(0), plain.least());
        askState(NONE, 0, 0);
        int turns = small ? 4 : 2;
        for (int turn = 0; turn < turns; turn++) {
            int n = turn == 0 ? stop : upTo(stop);
            askState(0, n, n);
        }
        due("no such state", x.state(0, 0, stop + 1, 0), -2);
        due("no such state", x.over(0, 0, stop + 1, 0), NO_STATE);
    }

    private void due(String call, long got, long want) {
        T.due(about + " " + call, got, want);
    }

    private void askState(int row, int n, int plainN) {
        x = Telling.with(plain.villageText(), plain.rowText());
        plain.go(plainN);
        String at = "(" + row + ", " + n + ") ";
        for (int a = 0; a < plain.people; a++) {
            int b = random.nextInt(plain.people);
            due(at + "owes " + a + " " + b, x.owes(0, row, n, a, b), plain.owed[a][b]);
            due(at + "room " + a + " " + b, x.room(0, row, n, a, b), plain.room(a, b));
            due(at + "over " + a, x.over(0, row, n, a), plain.over(a));
            due(at + "falls " + a, x.falls(0, row, n, a, false), plain.falls(a, false));
            due(at + "hit " + a, x.falls(0, row, n, a, true), plain.falls(a, true));
            int m = 2 + upTo(plain.people > 7 ? 3 : 4);
            int much = random.nextInt(4) == 0 ? 0 : 1 + upTo(4);
            due(at + "stranger " + a + " " + m + " " + much, x.stranger(0, row, n, a, m, much), plain.stranger(a, m, much));
        }
        askSums(row, n, at);
        askRings(row, n, at);
        askDebts(row, n, at);
        x = Telling.with(plain.villageText(), plain.rowText());
        askWants(row, n, at);
        askMany(row, n, at);
        askMonths(row, n, plainN, at);
    }

    private void askSums(int row, int n, String at) {
        T.due(about + at + "lawful", x.lawful(0, row, n), plain.lawful());
        int trust = 0;
        for (int[] each : plain.rooms()) {
            for (int room : each) {
                trust += room;
            }
        }
        int worst = plain.worst(row == NONE ? 0 : n);
        int[] want = {plain.month, plain.rings.size(), plain.open(), plain.left(), trust, plain.net(), plain.parted(),
            plain.couples(), plain.alone(), plain.groups(), worst};
        for (int what = 0; what < want.length; what++) {
            due(at + "state " + what, x.state(0, row, n, what), want[what]);
        }
        int by = upTo(100);
        due(at + "roll " + by, x.roll(0, row, n, by), plain.roll(by));
    }

    private void askRings(int row, int n, String at) {
        for (int r = 0; r < plain.rings.size() && r < 6; r++) {
            PlainVillage.Ring ring = plain.rings.get(r);
            int[] want = {ring.who.size(), ring.n, ring.till, ring.open ? 1 : 0};
            for (int what = 0; what < 4; what++) {
                due(at + "ring " + r + " " + what, x.ring(0, row, n, r, what), want[what]);
            }
            for (int i = 0; i < 6; i++) {
                int who = i < ring.who.size() ? ring.who.get(i) : NONE;
                due(at + "ring " + r + " who " + i, x.ring(0, row, n, r, 10 + i), who);
            }
        }
        due(at + "no such ring", x.ring(0, row, n, plain.rings.size(), 0), NONE);
    }

    private void askDebts(int row, int n, String at) {
        for (int a = 0; a < plain.people; a++) {
            for (int b = 0; b < plain.people; b++) {
                int much = 1 + upTo(Math.max(0, plain.owed[a][b]));
                if (plain.owed[a][b] > 0) {
                    due(at + "early " + a + " " + b + " " + much, x.early(0, row, n, a, b, much), plain.early(a, b, much));
                }
            }
        }
        for (int turn = 0; turn < 8; turn++) {
            int many = Math.min(plain.people, 2 + upTo(4));
            java.util.List<Integer> who = new java.util.ArrayList<>();
            int figures = 0;
            while (who.size() < many) {
                int p = random.nextInt(plain.people);
                if (!who.contains(p)) {
                    who.add(p);
                    figures = figures * 10 + p;
                }
            }
            int much = 1 + upTo(4);
            due(at + "take " + who + " " + much, x.take(0, row, n, many, figures, much), plain.goesRound(who, much) ? 1 : 0);
        }
    }

    private void askWants(int row, int n, String at) {
        for (int w = 0; w < plain.wants.size(); w++) {
            due(at + "bars " + w, x.bars(0, row, n, w), plain.bars(w));
            due(at + "much " + w, x.much(0, row, n, w), plain.much(w));
            for (int sort = 0; sort < 3; sort++) {
                String call = at + "find " + w + " " + sort;
                PlainVillage.Found f = plain.found(w, sort);
                due(call, x.find(0, row, n, w, sort, 0), f == null ? NONE : f.who.size());
                due(call + " cost", x.find(0, row, n, w, sort, 1), f == null ? NONE : f.cost);
                for (int i = 0; i < 6; i++) {
                    int who = f != null && i < f.who.size() ? f.who.get(i) : NONE;
                    due(call + " who " + i, x.find(0, row, n, w, sort, 10 + i), who);
                }
                due(call + " stands", x.stands(0, row, n, w, sort, false), f == null ? NONE : f.stands.longValueExact());
                due(call + " parts", x.stands(0, row, n, w, sort, true), f == null ? NONE : f.parts.longValueExact());
            }
            if (plain.people < 7 || w == 0) {
                int p = random.nextInt(plain.people);
                due(at + "rest " + w + " " + p, x.rest(0, row, n, w, p), plain.rest(w, p));
            }
        }
    }

    private void askMany(int row, int n, String at) {
        int[][] rooms = plain.rooms();
        int sets = 1 << plain.wants.size();
        for (int turn = 0; turn < 12; turn++) {
            int set = random.nextInt(sets);
            T.due(about + at + "had " + set, x.had(0, row, n, set, false), plain.had(rooms, set, 0));
            T.due(about + at + "had " + set + " with slack", x.had(0, row, n, set, true), plain.had(rooms, set, plain.slack));
            due(at + "need " + set, x.need(0, row, n, set), plain.needByWays(set));
            if (small && plain.people < 4 || plain.people == 4 && turn < 3) {
                int limit = plain.people < 4 ? 6 : 4;
                int got = x.need(0, row, n, set);
                due(at + "need " + set + " (" + limit + " at most)", Math.min(limit, got), plain.need(set, limit));
            }
        }
        int most = plain.most(rooms, 0);
        int more = plain.most(rooms, plain.slack);
        due(at + "most", x.most(0, row, n, false, false), most);
        due(at + "most worth", x.most(0, row, n, false, true), plain.value(most));
        due(at + "most with slack", x.most(0, row, n, true, false), more);
        due(at + "most worth with slack", x.most(0, row, n, true, true), plain.value(more));
        due(at + "shilling", x.shilling(0, row, n), plain.value(more) - plain.value(most));
        int p = random.nextInt(plain.people);
        due(at + "worth " + p, x.worth(0, row, n, p), plain.worth(p));
        int a = random.nextInt(plain.people);
        int b = other(a);
        due(at + "lent " + a + " " + b, x.lent(0, row, n, a, b), PlainVillage.lent(rooms, a, b));
        due(at + "tight " + a + " " + b, x.tight(0, row, n, a, b), plain.tight(a, b));
        int[] weak = plain.weak();
        due(at + "weak", x.weak(0, row, n, false), weak[0]);
        due(at + "weak second", x.weak(0, row, n, true), weak[1]);
        if (small) {
            int[] opens = plain.opens();
            due(at + "opens", x.opens(0, row, n, false), opens[0]);
            due(at + "opens second", x.opens(0, row, n, true), opens[1]);
        }
        for (int sort = 0; sort < 3; sort++) {
            plain.go(row == NONE ? 0 : n);
            int[] one = plain.oneByOne(sort);
            due(at + "one " + sort, x.one(0, row, n, sort, 0), one[0]);
            due(at + "one worth " + sort, x.one(0, row, n, sort, 1), one[1]);
            due(at + "one earns " + sort, x.one(0, row, n, sort, 10 + p), one[2 + p]);
            if (sort == 0) {
                due(at + "gap", x.gap(0, row, n), plain.value(most) - one[1]);
            }
        }
        plain.go(row == NONE ? 0 : n);
    }

    private void askMonths(int row, int n, int plainN, String at) {
        for (int turn = 0; turn < 2; turn++) {
            int seed = random.nextInt();
            int many = upTo(random.nextBoolean() ? 3 : 24);
            for (int what = 0; what < 4; what++) {
                plain.go(plainN);
                int want = plain.months(seed, many, what);
                due(at + "months " + seed + " " + many + " " + what, x.months(0, row, n, seed, many, what), want);
            }
        }
        plain.go(plainN);
    }
}
