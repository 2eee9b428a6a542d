import java.util.ArrayList;
import java.util.Arrays;
import java.util.List;

/**
 * The document told once more, as slowly and as near to its words as can be: lists of all ways,
 * letters laid out tick by tick, plain letters moved tick by tick. Nothing is kept between calls.
 */
final class Model {
    private static final class Wire {
        int from;
        int to;
        int length;
        int speed;
    }

    private static final class Stream {
        int size;
        int period;
        List<int[]> choices = new ArrayList<>();
        int choice = -1;
        int tick = -1;
    }

    private static final class Letter {
        int tick;
        int from;
        int to;
        int size;
        int[] way;
        int hop;
        int[] could = new int[4];
        int[] began = new int[4];
        int end;
    }

    private final List<Integer> holds = new ArrayList<>();
    private final List<Integer> offs = new ArrayList<>();
    private final List<Wire> wires = new ArrayList<>();
    private final List<Stream> streams = new ArrayList<>();
    private final List<Letter> letters = new ArrayList<>();
    private final int[] mosts = new int[12];
    private int cycle = 12;
    private int drift = 0;
    private int tries = 0;

    int box(int hold) {
        if (holds.size() == 6 || hold < 0 || hold > 5) {
            return -1;
        }
        holds.add(hold);
        offs.add(0);
        return holds.size() - 1;
    }

    int wire(int from, int to, int length, int speed) {
        if (wires.size() == 12 || !boxes(from, to) || from == to || !streams.isEmpty() || !letters.isEmpty()) {
            return -1;
        }
        if (length < 0 || length > 9 || speed < 1 || speed > 3) {
            return -1;
        }
        Wire w = new Wire();
        w.from = from;
        w.to = to;
        w.length = length;
        w.speed = speed;
        wires.add(w);
        return wires.size() - 1;
    }

    boolean cycle(int h) {
        if (!streams.isEmpty() || !List.of(12, 24, 48, 60, 120).contains(h)) {
            return false;
        }
        cycle = h;
        return true;
    }

    boolean drift(int d) {
        if (!streams.isEmpty() || d < 0 || d > 3) {
            return false;
        }
        drift = d;
        for (int b = 0; b < offs.size(); b++) {
            offs.set(b, 0);
        }
        return true;
    }

    int way(int a, int b, int size, int k, int i) {
        if (!boxes(a, b) || size < 1 || size > 8) {
            return -1;
        }
        List<int[]> ways = ways(a, b, size);
        if (k < 0 || k >= ways.size()) {
            return -1;
        }
        int[] way = ways.get(k);
        if (i == 4) {
            return lateness(way, size);
        }
        return i >= 0 && i < way.length ? way[i] : -1;
    }

    int stream(int from, int to, int size, int period, int latest) {
        if (streams.size() == 8 || !boxes(from, to) || from == to || size < 1 || size > 8) {
            return -1;
        }
        if (period < 2 || cycle % period != 0 || latest < 1 || latest > 200) {
            return -1;
        }
        Stream s = new Stream();
        s.size = size;
        s.period = period;
        for (int[] way : ways(from, to, size)) {
            if (s.choices.size() < 3 && lateness(way, size) <= latest) {
                s.choices.add(way);
            }
        }
        if (s.choices.isEmpty()) {
            return -2;
        }
        streams.add(s);
        return streams.size() - 1;
    }

    boolean strike(int s) {
        if (!placed(s)) {
            return false;
        }
        streams.get(s).choice = -1;
        return true;
    }

    int plan() {
        tries = 0;
        List<Integer> all = new ArrayList<>();
        for (int s = 0; s < streams.size(); s++) {
            all.add(s);
        }
        return fit(all);
    }

    int add() {
        tries = 0;
        return fit(without());
    }

    int stir() {
        tries = 0;
        List<List<Integer>> sets = new ArrayList<>();
        for (int bits = 0; bits < 1 << streams.size(); bits++) {
            List<Integer> set = new ArrayList<>();
            boolean good = true;
            for (int s = 0; s < streams.size(); s++) {
                if ((bits >> s & 1) == 1) {
                    set.add(s);
                    good &= placed(s);
                }
            }
            if (good && set.size() <= 3) {
                sets.add(set);
            }
        }
        sets.sort((p, q) -> {
            if (p.size() != q.size()) {
                return p.size() - q.size();
            }
            for (int j = 0; j < p.size(); j++) {
                if (!p.get(j).equals(q.get(j))) {
                    return p.get(j) - q.get(j);
                }
            }
            return 0;
        });
        for (List<Integer> set : sets) {
            List<Integer> fitted = new ArrayList<>(set);
            fitted.addAll(without());
            fitted.sort(Integer::compare);
            int answer = fit(fitted);
            if (answer == 1) {
                return set.size();
            }
            if (answer == -2) {
                return -2;
            }
        }
        return -1;
    }

    int place(int s, int what) {
        if (!placed(s)) {
            return -1;
        }
        Stream it = streams.get(s);
        int[] way = it.choices.get(it.choice);
        if (what == 0) {
            return it.choice;
        }
        if (what == 1) {
            return it.tick;
        }
        if (what == 2) {
            return way.length;
        }
        if (what == 3) {
            return lateness(way, it.size);
        }
        for (int k = 0; k < way.length; k++) {
            if (what == 10 + k) {
                return way[k];
            }
            if (what == 20 + k) {
                return it.tick + ahead(way, it.size, k);
            }
        }
        return -1;
    }

    int tries() {
        return tries;
    }

    int door(int w, int t) {
        if (w < 0 || w >= wires.size() || t < 0 || t >= cycle) {
            return -2;
        }
        return holder(w, t);
    }

    int waits(int w, int t, int size) {
        if (w < 0 || w >= wires.size() || t < 0 || t >= cycle || size < 1 || size > 8) {
            return -2;
        }
        for (int d = 0; d < cycle; d++) {
            if (opens(w, t + d, size)) {
                return d;
            }
        }
        return -1;
    }

    int worst(int w, int size) {
        int worst = -2;
        for (int t = 0; t < cycle; t++) {
            int d = waits(w, t, size);
            if (d < 0) {
                return d;
            }
            worst = Math.max(worst, d);
        }
        return worst;
    }

    boolean clock(int b, int e) {
        if (b < 0 || b >= holds.size() || e < -drift || e > drift) {
            return false;
        }
        offs.set(b, e);
        return true;
    }

    int send(int tick, int from, int to, int size) {
        if (letters.size() == 60 || tick < 0 || tick > 999 || !boxes(from, to) || from == to || size < 1 || size > 8) {
            return -1;
        }
        if (ways(from, to, size).isEmpty()) {
            return -2;
        }
        Letter l = new Letter();
        l.tick = tick;
        l.from = from;
        l.to = to;
        l.size = size;
        letters.add(l);
        return letters.size() - 1;
    }

    int leaves(int s, int n, int k) {
        if (!placed(s) || n < 0 || n > 99) {
            return -1000;
        }
        Stream it = streams.get(s);
        int[] way = it.choices.get(it.choice);
        if (k == 9) {
            int last = way.length - 1;
            Wire w = wires.get(way[last]);
            return leaves(s, n, last) + it.size * w.speed + w.length;
        }
        if (k < 0 || k >= way.length) {
            return -1000;
        }
        return it.tick + ahead(way, it.size, k) + n * it.period + offs.get(wires.get(way[k]).from);
    }

    int room(int s, int n, int k) {
        if (k < 1 || k > 3 || leaves(s, n, k) == -1000) {
            return -1000;
        }
        Stream it = streams.get(s);
        Wire w = wires.get(it.choices.get(it.choice)[k - 1]);
        int there = leaves(s, n, k - 1) + it.size * w.speed + w.length;
        return leaves(s, n, k) - (there + holds.get(w.to));
    }

    int plain(int l, int what) {
        if (l < 0 || l >= letters.size()) {
            return -1;
        }
        runLetters();
        Letter it = letters.get(l);
        if (what == 0) {
            return it.way.length;
        }
        if (what == 1) {
            return it.end < 3000 ? it.end : -3;
        }
        for (int k = 0; k < it.way.length; k++) {
            if (what == 10 + k) {
                return it.way[k];
            }
            if (what == 20 + k) {
                return it.began[k] < 3000 ? it.began[k] : -3;
            }
            if (what == 30 + k) {
                return it.could[k] < 3000 ? it.could[k] : -3;
            }
        }
        return -1;
    }

    int most(int w) {
        if (w < 0 || w >= wires.size()) {
            return -1;
        }
        runLetters();
        return mosts[w];
    }

    int count(int what) {
        int placed = 0;
        for (int s = 0; s < streams.size(); s++) {
            placed += placed(s) ? 1 : 0;
        }
        int ended = 0;
        if (what == 7) {
            runLetters();
            for (Letter l : letters) {
                ended += l.end < 3000 ? 1 : 0;
            }
        }
        int[] all = {holds.size(), wires.size(), cycle, drift, streams.size(), placed, letters.size(), ended};
        return what >= 0 && what < all.length ? all[what] : -1;
    }

    private boolean boxes(int a, int b) {
        return a >= 0 && a < holds.size() && b >= 0 && b < holds.size();
    }

    private boolean placed(int s) {
        return s >= 0 && s < streams.size() && streams.get(s).choice >= 0;
    }

    private List<Integer> without() {
        List<Integer> rest = new ArrayList<>();
        for (int s = 0; s < streams.size(); s++) {
            if (!placed(s)) {
                rest.add(s);
            }
        }
        return rest;
    }

    private List<int[]> ways(int a, int b, int size) {
        List<int[]> found = new ArrayList<>();
        List<Integer> seen = new ArrayList<>();
        seen.add(a);
        lengthen(new int[0], seen, b, found);
        found.sort((p, q) -> {
            int late = lateness(p, size) - lateness(q, size);
            return late != 0 ? late : Arrays.compare(p, q);
        });
        return found;
    }

    private void lengthen(int[] row, List<Integer> seen, int b, List<int[]> found) {
        int at = seen.get(seen.size() - 1);
        if (row.length > 0 && at == b) {
            found.add(row);
        }
        if (row.length == 4) {
            return;
        }
        for (int w = 0; w < wires.size(); w++) {
            if (wires.get(w).from == at && !seen.contains(wires.get(w).to)) {
                int[] longer = Arrays.copyOf(row, row.length + 1);
                longer[row.length] = w;
                seen.add(wires.get(w).to);
                lengthen(longer, seen, b, found);
                seen.remove(seen.size() - 1);
            }
        }
    }

    private int ahead(int[] way, int size, int k) {
        int sum = 0;
        for (int j = 0; j < k; j++) {
            Wire w = wires.get(way[j]);
            sum += size * w.speed + w.length + holds.get(w.to) + 2 * drift;
        }
        return sum;
    }

    private int lateness(int[] way, int size) {
        Wire last = wires.get(way[way.length - 1]);
        return ahead(way, size, way.length - 1) + size * last.speed + last.length;
    }

    /**
     * Adds to each tick of the cycle that a letter takes on each wire; true if one was taken
     * already.
     */
    private boolean layOut(int[][] grid, Stream s, int choice, int tick, int by) {
        int[] way = s.choices.get(choice);
        boolean met = false;
        for (int k = 0; k < way.length; k++) {
            int ahead = ahead(way, s.size, k);
            int[] row = grid[way[k]];
            for (int begin = tick; begin < tick + cycle; begin += s.period) {
                for (int j = 0; j < s.size * wires.get(way[k]).speed; j++) {
                    int t = (begin + ahead + j) % cycle;
                    row[t] += by;
                    met |= row[t] > 1;
                }
            }
        }
        return met;
    }

    private int fit(List<Integer> set) {
        int[][] grid = new int[12][cycle];
        for (int s = 0; s < streams.size(); s++) {
            if (placed(s) && !set.contains(s)) {
                layOut(grid, streams.get(s), streams.get(s).choice, streams.get(s).tick, 1);
            }
        }
        int[] choice = new int[8];
        int[] tick = new int[8];
        int answer = search(set, 0, grid, choice, tick);
        if (answer == 1) {
            for (int j = 0; j < set.size(); j++) {
                streams.get(set.get(j)).choice = choice[j];
                streams.get(set.get(j)).tick = tick[j];
            }
        }
        return answer;
    }

    private int search(List<Integer> set, int j, int[][] grid, int[] choice, int[] tick) {
        if (j == set.size()) {
            return 1;
        }
        Stream s = streams.get(set.get(j));
        for (choice[j] = 0; choice[j] < s.choices.size(); choice[j]++) {
            for (tick[j] = 0; tick[j] < s.period; tick[j]++) {
                if (tries == 40000) {
                    return -2;
                }
                tries++;
                boolean meets = layOut(grid, s, choice[j], tick[j], 1);
                int answer = meets ? 0 : search(set, j + 1, grid, choice, tick);
                if (answer != 0) {
                    return answer;
                }
                layOut(grid, s, choice[j], tick[j], -1);
            }
        }
        return 0;
    }

    private int holder(int w, int t) {
        for (int s = 0; s < streams.size(); s++) {
            if (placed(s)) {
                int[][] grid = new int[12][cycle];
                layOut(grid, streams.get(s), streams.get(s).choice, streams.get(s).tick, 1);
                if (grid[w][Math.floorMod(t, cycle)] > 0) {
                    return s;
                }
            }
        }
        return -1;
    }

    private boolean opens(int w, int t, int size) {
        for (int j = 0; j < size * wires.get(w).speed; j++) {
            if (holder(w, t + j) != -1) {
                return false;
            }
        }
        return true;
    }

    private void runLetters() {
        for (Letter l : letters) {
            l.way = ways(l.from, l.to, l.size).get(0);
            l.hop = 0;
            Arrays.fill(l.could, 9999);
            Arrays.fill(l.began, 9999);
            l.could[0] = l.tick;
            l.end = 9999;
        }
        Arrays.fill(mosts, 0);
        boolean[][] opens = new boolean[12 * 9][cycle];
        for (int w = 0; w < wires.size() && !letters.isEmpty(); w++) {
            boolean[] free = new boolean[cycle];
            for (int t = 0; t < cycle; t++) {
                free[t] = holder(w, t) == -1;
            }
            for (int size = 1; size <= 8; size++) {
                for (int t = 0; t < cycle; t++) {
                    boolean all = true;
                    for (int j = 0; j < size * wires.get(w).speed; j++) {
                        all &= free[(t + j) % cycle];
                    }
                    opens[w * 9 + size][t] = all;
                }
            }
        }
        int[] busyTill = new int[12];
        for (int t = 0; t < 3000; t++) {
            for (int w = 0; w < wires.size(); w++) {
                runWire(w, t, busyTill, opens);
            }
        }
    }

    private void runWire(int w, int t, int[] busyTill, boolean[][] opens) {
        Letter first = null;
        int waiting = 0;
        for (Letter l : letters) {
            if (l.hop < l.way.length && l.way[l.hop] == w && l.could[l.hop] <= t) {
                waiting++;
                if (first == null || l.could[l.hop] < first.could[first.hop]) {
                    first = l;
                }
            }
        }
        if (first != null && busyTill[w] <= t) {
            Wire wire = wires.get(w);
            int shown = Math.floorMod(t - offs.get(wire.from), cycle);
            if (opens[w * 9 + first.size][shown]) {
                first.began[first.hop] = t;
                first.hop++;
                busyTill[w] = t + first.size * wire.speed;
                if (first.hop < first.way.length) {
                    first.could[first.hop] = busyTill[w] + wire.length + holds.get(wire.to);
                } else {
                    first.end = busyTill[w] + wire.length;
                }
                waiting--;
            }
        }
        mosts[w] = Math.max(mosts[w], waiting);
    }
}
