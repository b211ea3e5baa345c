import java.math.BigInteger;
import java.util.ArrayList;
import java.util.Arrays;
import java.util.Collections;
import java.util.Comparator;
import java.util.List;
import java.util.TreeSet;

/**
 * The document read a second time, by other ways than the program's: cuts in the place of flows, lists of all rings in
 * the place of a search. It holds one village and one row, told as numbers.
 */
final class PlainVillage {
    static final class Ring {
        int n;
        int till;
        boolean open = true;
        List<Integer> who = new ArrayList<>();
    }

    static final class Found {
        List<Integer> who;
        int cost;
        BigInteger stands;
        BigInteger parts;
    }

    int people = 4;
    int slack;
    int[][] takes = new int[9][9];
    int[] fee = new int[9];
    int[] risk = new int[9];
    List<int[]> wants = new ArrayList<>();
    List<int[]> acts = new ArrayList<>();

    int[][] owed = new int[9][9];
    List<Ring> rings = new ArrayList<>();
    int month;

    int room(int a, int b) {
        return a == b ? 0 : Math.max(0, takes[b][a] - owed[a][b]);
    }

    int[][] rooms() {
        int[][] all = new int[people][people];
        for (int a = 0; a < people; a++) {
            for (int b = 0; b < people; b++) {
                all[a][b] = room(a, b);
            }
        }
        return all;
    }

    void restart() {
        owed = new int[9][9];
        rings = new ArrayList<>();
        month = 0;
    }

    boolean isOne(int p) {
        return 0 <= p && p < people;
    }

    boolean doAct(int[] act) {
        switch (act[0]) {
            case 0:
                if (!isOne(act[1]) || !isOne(act[2]) || room(act[1], act[2]) < act[3]) {
                    return false;
                }
                owed[act[1]][act[2]] += act[3];
                return true;
            case 1:
                if (!isOne(act[1]) || !isOne(act[2]) || owed[act[1]][act[2]] < act[3]) {
                    return false;
                }
                owed[act[1]][act[2]] -= act[3];
                return true;
            case 2: {
                Ring ring = new Ring();
                ring.n = act[1];
                ring.till = act[2];
                for (int i = 3; i < act.length; i++) {
                    ring.who.add(act[i]);
                }
                return begin(ring);
            }
            case 3:
                if (act[1] >= rings.size() || !rings.get(act[1]).open) {
                    return false;
                }
                strike(rings.get(act[1]));
                return true;
            case 4:
                if (!isOne(act[1])) {
                    return false;
                }
                fail(act[1]);
                return true;
            default:
                nextMonth();
                return true;
        }
    }

    boolean begin(Ring ring) {
        int size = ring.who.size();
        for (int i = 0; i < size; i++) {
            int a = ring.who.get(i);
            int b = ring.who.get((i + 1) % size);
            if (!isOne(a) || !isOne(b) || room(a, b) < ring.n) {
                return false;
            }
        }
        for (int i = 0; i < size; i++) {
            owed[ring.who.get(i)][ring.who.get((i + 1) % size)] += ring.n;
        }
        rings.add(ring);
        return true;
    }

    void strike(Ring ring) {
        int size = ring.who.size();
        for (int i = 0; i < size; i++) {
            int a = ring.who.get(i);
            int b = ring.who.get((i + 1) % size);
            owed[a][b] = Math.max(0, owed[a][b] - ring.n);
        }
        ring.open = false;
    }

    void fail(int p) {
        for (Ring ring : rings) {
            if (ring.open && ring.who.contains(p)) {
                strike(ring);
            }
        }
        for (int q = 0; q < 9; q++) {
            owed[p][q] = 0;
            owed[q][p] = 0;
        }
    }

    void nextMonth() {
        month++;
        for (Ring ring : rings) {
            if (ring.open && ring.till < month) {
                strike(ring);
            }
        }
    }

    int stop() {
        restart();
        for (int i = 0; i < acts.size(); i++) {
            if (!doAct(acts.get(i))) {
                return i;
            }
        }
        return acts.size();
    }

    int hour() {
        int stop = stop();
        for (int i = 0; i < stop; i++) {
            go(i + 1);
            if (!lawful()) {
                return i;
            }
        }
        return -1;
    }

    /** Only for n up to stop(). */
    void go(int n) {
        restart();
        for (int i = 0; i < n; i++) {
            doAct(acts.get(i));
        }
    }

    int over(int p) {
        int all = 0;
        for (int q = 0; q < 9; q++) {
            all += owed[p][q];
            all -= owed[q][p];
        }
        return all;
    }

    boolean lawful() {
        for (int p = 0; p < people; p++) {
            if (over(p) > slack || over(p) < -slack) {
                return false;
            }
        }
        return true;
    }

    int left() {
        return Arrays.stream(owed).flatMapToInt(Arrays::stream).sum();
    }

    int open() {
        int bits = 0;
        for (int r = 0; r < rings.size(); r++) {
            if (rings.get(r).open) {
                bits += 1 << r;
            }
        }
        return bits;
    }

    int net() {
        int all = 0;
        for (int a = 0; a < 9; a++) {
            for (int b = 0; b < 9; b++) {
                all += Math.max(0, owed[a][b] - owed[b][a]);
            }
        }
        return all;
    }

    int parted() {
        for (int p = 0; p < people; p++) {
            if (over(p) != 0) {
                return -1;
            }
        }
        int[][] debts = new int[9][];
        for (int a = 0; a < 9; a++) {
            debts[a] = owed[a].clone();
        }
        int many = 0;
        while (true) {
            int from = 0;
            while (from < 9 && Arrays.stream(debts[from]).sum() == 0) {
                from++;
            }
            if (from == 9) {
                return many;
            }
            List<Integer> walk = new ArrayList<>();
            while (!walk.contains(from)) {
                walk.add(from);
                int to = 0;
                while (debts[from][to] == 0) {
                    to++;
                }
                from = to;
            }
            List<Integer> ring = walk.subList(walk.indexOf(from), walk.size());
            int least = Integer.MAX_VALUE;
            for (int i = 0; i < ring.size(); i++) {
                least = Math.min(least, debts[ring.get(i)][ring.get((i + 1) % ring.size())]);
            }
            for (int i = 0; i < ring.size(); i++) {
                debts[ring.get(i)][ring.get((i + 1) % ring.size())] -= least;
            }
            many++;
        }
    }

    int couples() {
        int many = 0;
        for (int a = 0; a < 9; a++) {
            for (int b = a + 1; b < 9; b++) {
                if (owed[a][b] != 0 && owed[b][a] != 0) {
                    many++;
                }
            }
        }
        return many;
    }

    int alone() {
        int bits = 0;
        for (int p = 0; p < people; p++) {
            int all = 0;
            for (int q = 0; q < 9; q++) {
                all += owed[p][q] + owed[q][p];
            }
            if (all == 0) {
                bits += 1 << p;
            }
        }
        return bits;
    }

    int groups() {
        int[] name = new int[people];
        for (int p = 0; p < people; p++) {
            name[p] = p;
        }
        for (int a = 0; a < people; a++) {
            for (int b = 0; b < people; b++) {
                if (owed[a][b] > 0) {
                    int old = name[a];
                    for (int p = 0; p < people; p++) {
                        if (name[p] == old) {
                            name[p] = name[b];
                        }
                    }
                }
            }
        }
        TreeSet<Integer> names = new TreeSet<>();
        for (int p = 0; p < people; p++) {
            if ((alone() >> p & 1) == 0) {
                names.add(name[p]);
            }
        }
        return names.size();
    }

    int worst(int n) {
        int best = -1;
        int most = -1;
        for (int p = 0; p < people; p++) {
            go(n);
            int before = left();
            fail(p);
            if (before - left() > most) {
                most = before - left();
                best = p;
            }
        }
        go(n);
        return best;
    }

    int falls(int p, boolean hit) {
        int which = 0;
        int who = 0;
        for (int r = 0; r < rings.size(); r++) {
            if (rings.get(r).open && rings.get(r).who.contains(p)) {
                which |= 1 << r;
                for (int q : rings.get(r).who) {
                    who |= q == p ? 0 : 1 << q;
                }
            }
        }
        return hit ? who : which;
    }

    int roll(int by) {
        int bits = 0;
        for (int r = 0; r < rings.size(); r++) {
            if (rings.get(r).open && rings.get(r).till < by) {
                bits |= 1 << r;
            }
        }
        return bits;
    }

    int months(int seed, int many, int what) {
        long x = seed & 0xffffffffL;
        int failed = 0;
        int first = -1;
        for (int m = 0; m < many; m++) {
            for (int p = 0; p < people; p++) {
                x = (x * 1103515245L + 12345L) & 0xffffffffL;
                if ((x >> 16) % 100 < risk[p]) {
                    fail(p);
                    failed++;
                }
            }
            nextMonth();
            if (first < 0 && !lawful()) {
                first = m;
            }
        }
        return new int[] {open(), left(), failed, first}[what];
    }

    /** All rows of 2 to 6 unlike people. */
    private void rows(List<Integer> begun, List<List<Integer>> all) {
        if (begun.size() >= 2) {
            all.add(new ArrayList<>(begun));
        }
        for (int p = 0; begun.size() < 6 && p < people; p++) {
            if (!begun.contains(p)) {
                begun.add(p);
                rows(begun, all);
                begun.remove(begun.size() - 1);
            }
        }
    }

    boolean goesRound(List<Integer> who, int n) {
        for (int i = 0; i < who.size(); i++) {
            if (room(who.get(i), who.get((i + 1) % who.size())) < n) {
                return false;
            }
        }
        return true;
    }

    static int byNumbers(List<Integer> a, List<Integer> b) {
        for (int i = 0; i < Math.min(a.size(), b.size()); i++) {
            if (!a.get(i).equals(b.get(i))) {
                return a.get(i) - b.get(i);
            }
        }
        return a.size() - b.size();
    }

    Found found(int want, int sort) {
        int[] w = wants.get(want);
        List<List<Integer>> rows = new ArrayList<>();
        rows(new ArrayList<>(List.of(w[0], w[1])), rows);
        List<Found> all = new ArrayList<>();
        for (List<Integer> who : rows) {
            if (goesRound(who, w[2])) {
                Found f = new Found();
                f.who = who;
                f.stands = BigInteger.ONE;
                f.parts = BigInteger.ONE;
                for (int p : who) {
                    f.cost += p == w[0] || p == w[1] ? 0 : fee[p];
                    f.stands = f.stands.multiply(BigInteger.valueOf(100 - risk[p]));
                    f.parts = f.parts.multiply(BigInteger.valueOf(100));
                }
                all.add(f);
            }
        }
        if (all.isEmpty()) {
            return null;
        }
        Comparator<Found> order = Comparator.comparingInt((Found f) -> f.who.size());
        order = order.thenComparing((f, g) -> byNumbers(f.who, g.who));
        if (sort == 1) {
            order = Comparator.comparingInt((Found f) -> f.cost).thenComparing(order);
        }
        if (sort == 2) {
            Comparator<Found> stands = (f, g) -> g.stands.multiply(f.parts).compareTo(f.stands.multiply(g.parts));
            order = stands.thenComparing(order);
        }
        return Collections.min(all, order);
    }

    boolean[][] reaches(int n) {
        boolean[][] can = new boolean[people][people];
        for (int a = 0; a < people; a++) {
            for (int b = 0; b < people; b++) {
                can[a][b] = a == b || room(a, b) >= n;
            }
        }
        for (int k = 0; k < people; k++) {
            for (int a = 0; a < people; a++) {
                for (int b = 0; b < people; b++) {
                    can[a][b] |= can[a][k] && can[k][b];
                }
            }
        }
        return can;
    }

    int bars(int want) {
        int[] w = wants.get(want);
        boolean[] from = reaches(w[2])[w[1]];
        int bits = 0;
        for (int p = 0; p < people; p++) {
            bits |= from[p] ? 1 << p : 0;
        }
        return from[w[0]] ? -1 : bits;
    }

    int rest(int want, int p) {
        int kept = fee[p];
        int best = -1;
        for (int f = 0; f <= 99; f++) {
            fee[p] = f;
            Found cheap = found(want, 1);
            if (cheap != null && cheap.who.contains(p)) {
                best = f;
            }
        }
        fee[p] = kept;
        return best;
    }

    int early(int a, int b, int n) {
        if (a == b || owed[a][b] < n) {
            return -1;
        }
        int[] steps = new int[people];
        Arrays.fill(steps, 1000);
        steps[a] = 0;
        for (int turn = 0; turn < people; turn++) {
            for (int p = 0; p < people; p++) {
                for (int q = 0; q < people; q++) {
                    if (p != q && !(p == a && q == b) && room(p, q) >= n) {
                        steps[q] = Math.min(steps[q], steps[p] + 1);
                    }
                }
            }
        }
        return steps[b] >= 1000 ? -1 : steps[b];
    }

    int stranger(int p, int m, int n) {
        List<List<Integer>> rows = new ArrayList<>();
        rows(new ArrayList<>(), rows);
        TreeSet<List<Integer>> turned = new TreeSet<>(PlainVillage::byNumbers);
        for (List<Integer> who : rows) {
            if (who.size() <= m && who.contains(p) && goesRound(who, n)) {
                int least = who.indexOf(Collections.min(who));
                List<Integer> same = new ArrayList<>(who.subList(least, who.size()));
                same.addAll(who.subList(0, least));
                turned.add(same);
            }
        }
        return turned.size();
    }

    int[] oneByOne(int sort) {
        int[] answer = new int[2 + people];
        for (int w = 0; w < wants.size(); w++) {
            Found f = found(w, sort);
            if (f != null) {
                Ring ring = new Ring();
                ring.n = wants.get(w)[2];
                ring.till = 99;
                ring.who = f.who;
                begin(ring);
                answer[0] |= 1 << w;
                answer[1] += wants.get(w)[3];
                for (int p : f.who) {
                    if (p != wants.get(w)[0] && p != wants.get(w)[1]) {
                        answer[2 + p] += fee[p] * ring.n;
                    }
                }
            }
        }
        return answer;
    }

    /** The least cut, in the place of the greatest flow. */
    static int lent(int[][] rooms, int a, int b) {
        int people = rooms.length;
        int least = Integer.MAX_VALUE;
        for (int set = 0; set < 1 << people; set++) {
            if ((set >> a & 1) == 1 && (set >> b & 1) == 0) {
                int cut = 0;
                for (int p = 0; p < people; p++) {
                    for (int q = 0; q < people; q++) {
                        cut += (set >> p & 1) == 1 && (set >> q & 1) == 0 ? rooms[p][q] : 0;
                    }
                }
                least = Math.min(least, cut);
            }
        }
        return least;
    }

    int much(int want) {
        int[] w = wants.get(want);
        return Math.min(w[2], Math.min(room(w[0], w[1]), lent(rooms(), w[1], w[0])));
    }

    /** Hoffman's theorem on circulations: into no set of people may more be due than can leave it. */
    boolean had(int[][] rooms, int set, int apart) {
        int[][] due = new int[people][people];
        for (int w = 0; w < wants.size(); w++) {
            if ((set >> w & 1) == 1) {
                due[wants.get(w)[0]][wants.get(w)[1]] += wants.get(w)[2];
            }
        }
        for (int a = 0; a < people; a++) {
            for (int b = 0; b < people; b++) {
                if (due[a][b] > rooms[a][b]) {
                    return false;
                }
            }
        }
        for (int some = 0; some < 1 << people; some++) {
            int in = 0;
            int out = 0;
            for (int a = 0; a < people; a++) {
                for (int b = 0; b < people; b++) {
                    in += (some >> a & 1) == 0 && (some >> b & 1) == 1 ? due[a][b] : 0;
                    out += (some >> a & 1) == 1 && (some >> b & 1) == 0 ? rooms[a][b] : 0;
                }
            }
            int within = Integer.bitCount(some);
            // Slack goes by one more whom all may owe and be owed by so much: he is in the set, or is not.
            if (in > out + apart * Math.min(within, people - within)) {
                return false;
            }
        }
        return true;
    }

    int value(int set) {
        int all = 0;
        for (int w = 0; w < wants.size(); w++) {
            all += (set >> w & 1) * wants.get(w)[3];
        }
        return all;
    }

    int most(int[][] rooms, int apart) {
        List<Integer> sets = new ArrayList<>();
        for (int set = 0; set < 1 << wants.size(); set++) {
            if (had(rooms, set, apart)) {
                sets.add(set);
            }
        }
        return Collections.min(sets, Comparator.comparingInt((Integer s) -> -value(s))
            .thenComparing(s -> Integer.bitCount(s)).thenComparing(s -> s));
    }

    int worth(int p) {
        int[][] without = rooms();
        for (int q = 0; q < people; q++) {
            without[p][q] = 0;
            without[q][p] = 0;
        }
        return value(most(rooms(), 0)) - value(most(without, 0));
    }

    /** Whether some growth of just so much, from that pair on, is enough: for small villages. */
    private boolean enough(int[][] rooms, int set, int from, int grow) {
        if (grow == 0) {
            return had(rooms, set, 0);
        }
        for (int pair = from; pair < people * people; pair++) {
            int a = pair / people;
            int b = pair % people;
            if (a != b) {
                rooms[a][b]++;
                boolean good = enough(rooms, set, pair, grow - 1);
                rooms[a][b]--;
                if (good) {
                    return true;
                }
            }
        }
        return false;
    }

    /** The limit itself if more would be needed. */
    int need(int set, int limit) {
        for (int grow = 0; grow < limit; grow++) {
            if (enough(rooms(), set, 0, grow)) {
                return grow;
            }
        }
        return limit;
    }

    /** As need(), without a limit: what is due goes by the cheapest ways, each word that grows costing one. */
    int needByWays(int set) {
        int[][] rooms = rooms();
        int source = people;
        int sink = people + 1;
        int[][] free = new int[people + 2][people + 2];
        int[][] grown = new int[people + 2][people + 2];
        int need = 0;
        for (int w = 0; w < wants.size(); w++) {
            if ((set >> w & 1) == 1) {
                int[] want = wants.get(w);
                int fits = Math.min(want[2], rooms[want[0]][want[1]]);
                rooms[want[0]][want[1]] -= fits;
                need += want[2] - fits;
                free[source][want[1]] += want[2];
                free[want[0]][sink] += want[2];
            }
        }
        for (int a = 0; a < people; a++) {
            System.arraycopy(rooms[a], 0, free[a], 0, people);
        }
        int cost = cheapestWay(free, grown, source, sink);
        while (cost >= 0) {
            need += cost;
            cost = cheapestWay(free, grown, source, sink);
        }
        return need;
    }

    /** Sends one from the source to the sink, over free room or grown words: what it costs, -1 if nothing is left to send. */
    private int cheapestWay(int[][] free, int[][] grown, int source, int sink) {
        int nodes = people + 2;
        int far = 1000;
        int[] cost = new int[nodes];
        int[] from = new int[nodes];
        java.util.Arrays.fill(cost, far);
        cost[source] = 0;
        for (int round = 0; round < nodes; round++) {
            for (int a = 0; a < nodes; a++) {
                for (int b = 0; b < nodes; b++) {
                    int step = stepCost(free, grown, a, b);
                    if (a != b && step < far && cost[a] < far && cost[a] + step < cost[b]) {
                        cost[b] = cost[a] + step;
                        from[b] = a;
                    }
                }
            }
        }
        if (cost[sink] >= far) {
            return -1;
        }
        for (int b = sink; b != source; b = from[b]) {
            int a = from[b];
            int step = stepCost(free, grown, a, b);
            if (step < 0) {
                grown[b][a]--;
            } else if (step == 0) {
                free[a][b]--;
                free[b][a]++;
            } else {
                grown[a][b]++;
            }
        }
        return cost[sink];
    }

    /** A word that has grown for nothing is taken back first. */
    private int stepCost(int[][] free, int[][] grown, int a, int b) {
        if (grown[b][a] > 0) {
            return -1;
        }
        if (free[a][b] > 0) {
            return 0;
        }
        return a < people && b < people ? 1 : 1000;
    }

    int least() {
        for (int n = 0; n <= 99; n++) {
            int[][] all = new int[people][people];
            for (int a = 0; a < people; a++) {
                for (int b = 0; b < people; b++) {
                    all[a][b] = a == b ? 0 : n;
                }
            }
            if (had(all, (1 << wants.size()) - 1, 0)) {
                return n;
            }
        }
        return -1;
    }

    int tight(int a, int b) {
        int[][] more = rooms();
        more[a][b]++;
        return value(most(more, 0)) - value(most(rooms(), 0));
    }

    int[] opens() {
        int[] best = {-1, -1};
        int most = 0;
        for (int a = 0; a < people; a++) {
            for (int b = 0; b < people; b++) {
                if (a != b && tight(a, b) > most) {
                    most = tight(a, b);
                    best = new int[] {a, b};
                }
            }
        }
        return best;
    }

    int[] weak() {
        int[] best = {-1, -1};
        int least = Integer.MAX_VALUE;
        for (int a = 0; a < people; a++) {
            for (int b = 0; b < people; b++) {
                if (a != b && lent(rooms(), a, b) < least) {
                    least = lent(rooms(), a, b);
                    best = new int[] {a, b};
                }
            }
        }
        return best;
    }

    String villageText() {
        StringBuilder text = new StringBuilder("people " + people + ";slack " + slack + ";");
        for (int a = 0; a < people; a++) {
            text.append(fee[a] > 0 ? "fee " + a + " " + fee[a] + ";" : "");
            text.append(risk[a] > 0 ? "risk " + a + " " + risk[a] + ";" : "");
        }
        for (int[] w : wants) {
            text.append("want " + w[0] + " " + w[1] + " " + w[2] + " " + w[3] + ";");
        }
        int[] counts = new int[100];
        for (int a = 0; a < people; a++) {
            for (int b = 0; b < people; b++) {
                counts[takes[a][b]] += a == b ? 0 : 1;
            }
        }
        int often = 0;
        for (int n = 0; n < 100; n++) {
            often = counts[n] > counts[often] ? n : often;
        }
        text.append("all " + often + ";");
        for (int a = 0; a < people; a++) {
            for (int b = 0; b < people; b++) {
                text.append(a != b && takes[a][b] != often ? "word " + a + " " + b + " " + takes[a][b] + ";" : "");
            }
        }
        return text.toString();
    }

    String rowText() {
        String[] names = {"owe", "pay", "ring", "strike", "fail", "month"};
        StringBuilder text = new StringBuilder();
        for (int[] act : acts) {
            text.append(names[act[0]]);
            for (int i = 1; i < act.length; i++) {
                text.append(' ').append(act[i]);
            }
            text.append(';');
        }
        return text.toString();
    }
}
