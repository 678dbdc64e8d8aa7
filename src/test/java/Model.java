import java.math.BigInteger;
import java.util.ArrayList;
import java.util.Collections;
import java.util.HashSet;
import java.util.List;
import java.util.Set;
import java.util.TreeSet;

/**
 * The document's terms said again, as literally and as unlike the program as may be: everything is found
 * anew at each call, with sets and lists. It knows valid questions alone; RunsAgainstModelTest asks them.
 */
final class Model {
    record Place(int x, int y) { }

    record Pair(int a, int b, BigInteger over, BigInteger under) {
        int straighterFirst(Pair o) {
            int by = o.over.multiply(under).compareTo(over.multiply(o.under));
            if (by != 0) {
                return by;
            }
            return a != o.a ? Integer.compare(a, o.a) : Integer.compare(b, o.b);
        }
    }

    static final class Way {
        final int a;
        final int b;
        int kind;
        int use;

        Way(int a, int b, int kind, int use) {
            this.a = a;
            this.b = b;
            this.kind = kind;
            this.use = use;
        }
    }

    final List<Place> places = new ArrayList<>();
    final List<Way> ways = new ArrayList<>();
    final List<Boolean> added = new ArrayList<>();

    int addPlace(int x, int y) {
        if (x < 0 || x > 30 || y < 0 || y > 30) {
            return -2;
        }
        if (places.contains(new Place(x, y))) {
            return -3;
        }
        if (places.size() == 16) {
            return -4;
        }
        places.add(new Place(x, y));
        added.add(false);
        return places.size();
    }

    int addWay(int a, int b, int kind, int use) {
        int m = places.size();
        if (a < 0 || a >= m || b < 0 || b >= m || a == b || kind < 0 || kind > 2 || use < 0 || use > 9) {
            return -2;
        }
        for (Way w : ways) {
            if (Set.of(w.a, w.b).equals(Set.of(a, b))) {
                return -3;
            }
        }
        if (ways.size() == 24) {
            return -4;
        }
        ways.add(new Way(a, b, kind, use));
        added.add(true);
        return ways.size();
    }

    int undo() {
        if (added.isEmpty()) {
            return -3;
        }
        boolean way = added.remove(added.size() - 1);
        if (way) {
            ways.remove(ways.size() - 1);
        } else {
            places.remove(places.size() - 1);
        }
        return added.size();
    }

    int length(int r) {
        Place p = places.get(ways.get(r).a);
        Place q = places.get(ways.get(r).b);
        return Math.abs(p.x - q.x) + Math.abs(p.y - q.y);
    }

    int worth(int r) {
        Way w = ways.get(r);
        int[] times = {w.use + 1, 2 * (w.use + 1), w.use + 12};
        return length(r) * times[w.kind];
    }

    boolean isThere(int r, int m) {
        return ways.get(r).a == m || ways.get(r).b == m;
    }

    /** The pair with its fraction; null, if the two are not ALONG. */
    Pair pair(int m, int a, int b) {
        int[] u = out(m, a);
        int[] v = out(m, b);
        long p = (long) u[0] * v[0] + (long) u[1] * v[1];
        long q = ((long) u[0] * u[0] + (long) u[1] * u[1]) * ((long) v[0] * v[0] + (long) v[1] * v[1]);
        if (p >= 0 || 2 * p * p < q) {
            return null;
        }
        return new Pair(Math.min(a, b), Math.max(a, b), BigInteger.valueOf(p * p), BigInteger.valueOf(q));
    }

    private int[] out(int m, int r) {
        Way w = ways.get(r);
        Place from = places.get(m);
        Place to = places.get(w.a == m ? w.b : w.a);
        return new int[] {to.x - from.x, to.y - from.y};
    }

    List<Pair> joinedAt(int m) {
        List<Pair> all = new ArrayList<>();
        for (int a = 0; a < ways.size(); a++) {
            for (int b = a + 1; b < ways.size(); b++) {
                Set<Integer> kinds = Set.copyOf(List.of(ways.get(a).kind, ways.get(b).kind));
                if (isThere(a, m) && isThere(b, m) && !kinds.equals(Set.of(0, 2)) && pair(m, a, b) != null) {
                    all.add(pair(m, a, b));
                }
            }
        }
        all.sort(Pair::straighterFirst);
        List<Pair> chosen = new ArrayList<>();
        Set<Integer> used = new HashSet<>();
        for (Pair p : all) {
            if (!used.contains(p.a) && !used.contains(p.b)) {
                chosen.add(p);
                used.add(p.a);
                used.add(p.b);
            }
        }
        return chosen;
    }

    int joined(int m, int r) {
        for (Pair p : joinedAt(m)) {
            if (p.a == r) {
                return p.b;
            }
            if (p.b == r) {
                return p.a;
            }
        }
        return -1;
    }

    int pairs() {
        int n = 0;
        for (int m = 0; m < places.size(); m++) {
            n += joinedAt(m).size();
        }
        return n;
    }

    List<TreeSet<Integer>> strokes() {
        List<TreeSet<Integer>> sets = new ArrayList<>();
        for (int r = 0; r < ways.size(); r++) {
            sets.add(new TreeSet<>(List.of(r)));
        }
        for (int m = 0; m < places.size(); m++) {
            for (Pair p : joinedAt(m)) {
                TreeSet<Integer> one = holding(sets, p.a);
                TreeSet<Integer> other = holding(sets, p.b);
                if (one != other) {
                    one.addAll(other);
                    sets.removeIf(s -> s == other);
                }
            }
        }
        sets.sort((s, t) -> Integer.compare(s.first(), t.first()));
        return sets;
    }

    private static TreeSet<Integer> holding(List<TreeSet<Integer>> sets, int r) {
        for (TreeSet<Integer> s : sets) {
            if (s.contains(r)) {
                return s;
            }
        }
        throw new IllegalStateException("no stroke of road " + r);
    }

    int length(Set<Integer> roads) {
        return roads.stream().mapToInt(this::length).sum();
    }

    int worth(Set<Integer> roads) {
        return roads.stream().mapToInt(this::worth).sum();
    }

    Set<Integer> meetings(Set<Integer> roads) {
        Set<Integer> all = new TreeSet<>();
        for (int r : roads) {
            all.add(ways.get(r).a);
            all.add(ways.get(r).b);
        }
        return all;
    }

    /** The meetings at which a stroke ends; none, if it is closed. */
    List<Integer> ends(Set<Integer> roads) {
        List<Integer> all = new ArrayList<>();
        for (int r : roads) {
            for (int m : List.of(ways.get(r).a, ways.get(r).b)) {
                if (joined(m, r) == -1) {
                    all.add(m);
                }
            }
        }
        return all;
    }

    boolean touches(Set<Integer> s, Set<Integer> t) {
        return !Collections.disjoint(meetings(s), meetings(t));
    }

    /** Rows of {stroke, net} by rank. */
    List<int[]> ranks() {
        List<TreeSet<Integer>> all = strokes();
        List<int[]> ranked = new ArrayList<>();
        int net = -1;
        while (ranked.size() < all.size()) {
            int next = best(all, ranked, true);
            if (next == -1) {
                next = best(all, ranked, false);
                net++;
            }
            ranked.add(new int[] {next, net});
        }
        return ranked;
    }

    private int best(List<TreeSet<Integer>> all, List<int[]> ranked, boolean touching) {
        int best = -1;
        for (int s = 0; s < all.size(); s++) {
            boolean has = false;
            boolean near = false;
            for (int[] r : ranked) {
                has |= r[0] == s;
                near |= touches(all.get(r[0]), all.get(s));
            }
            if (!has && (near || !touching) && (best == -1 || worth(all.get(s)) > worth(all.get(best)))) {
                best = s;
            }
        }
        return best;
    }

    Set<Integer> sheet(int n) {
        Set<Integer> some = new TreeSet<>();
        for (int[] r : ranks().subList(0, n)) {
            some.add(r[0]);
        }
        return some;
    }

    Set<Integer> sheetRoads(int n) {
        Set<Integer> roads = new TreeSet<>();
        for (int s : sheet(n)) {
            roads.addAll(strokes().get(s));
        }
        return roads;
    }

    int far(Set<Integer> roads, int from, int to) {
        int m = places.size();
        int[][] d = new int[m][m];
        for (int i = 0; i < m; i++) {
            for (int j = 0; j < m; j++) {
                d[i][j] = i == j ? 0 : 1 << 20;
            }
        }
        for (int r : roads) {
            d[ways.get(r).a][ways.get(r).b] = length(r);
            d[ways.get(r).b][ways.get(r).a] = length(r);
        }
        for (int k = 0; k < m; k++) {
            for (int i = 0; i < m; i++) {
                for (int j = 0; j < m; j++) {
                    d[i][j] = Math.min(d[i][j], d[i][k] + d[k][j]);
                }
            }
        }
        return d[from][to] >= 1 << 20 ? -1 : d[from][to];
    }

    int bridges(Set<Integer> roads) {
        int bits = 0;
        for (int r : roads) {
            Set<Integer> others = new TreeSet<>(roads);
            others.remove(r);
            if (parts(others) > parts(roads)) {
                bits |= 1 << r;
            }
        }
        return bits;
    }

    private int parts(Set<Integer> roads) {
        int[] label = new int[places.size()];
        for (int m = 0; m < label.length; m++) {
            label[m] = m;
        }
        for (int r : roads) {
            int from = label[ways.get(r).a];
            int to = label[ways.get(r).b];
            for (int m = 0; m < label.length; m++) {
                label[m] = label[m] == from ? to : label[m];
            }
        }
        Set<Integer> seen = new HashSet<>();
        for (int l : label) {
            seen.add(l);
        }
        return seen.size();
    }

    int detour(int r) {
        Set<Integer> others = new TreeSet<>();
        for (int o = 0; o < ways.size(); o++) {
            others.add(o);
        }
        others.remove(r);
        int way = far(others, ways.get(r).a, ways.get(r).b);
        return way == -1 ? -1 : way - length(r);
    }

    /** The strokes cut, in their order. */
    List<Integer> cut(int n, int limit) {
        List<TreeSet<Integer>> all = strokes();
        Set<Integer> left = sheet(n);
        List<Integer> gone = new ArrayList<>();
        while (true) {
            int next = -1;
            for (int s : left) {
                int by = next == -1 ? -1 : Integer.compare(worth(all.get(s)), worth(all.get(next)));
                if (by <= 0 && worth(all.get(s)) < limit && mayGo(all, left, s)) {
                    next = s;
                }
            }
            if (next == -1) {
                return gone;
            }
            left.remove(next);
            gone.add(next);
        }
    }

    private boolean mayGo(List<TreeSet<Integer>> all, Set<Integer> left, int s) {
        Set<Integer> rest = new TreeSet<>(left);
        rest.remove(s);
        boolean bare = false;
        for (int m : ends(all.get(s))) {
            bare |= rest.stream().noneMatch(t -> meetings(all.get(t)).contains(m));
        }
        Set<Integer> fellows = group(all, left, s);
        fellows.remove(s);
        if (!bare || fellows.isEmpty()) {
            return false;
        }
        return group(all, rest, fellows.iterator().next()).equals(fellows);
    }

    private Set<Integer> group(List<TreeSet<Integer>> all, Set<Integer> some, int start) {
        Set<Integer> seen = new TreeSet<>();
        List<Integer> open = new ArrayList<>(List.of(start));
        while (!open.isEmpty()) {
            int s = open.remove(open.size() - 1);
            if (seen.add(s)) {
                for (int t : some) {
                    if (touches(all.get(s), all.get(t))) {
                        open.add(t);
                    }
                }
            }
        }
        return seen;
    }

    /** {which, how much}. */
    int[] useful() {
        int[] most = {-1, -1};
        for (int r = 0; r < ways.size(); r++) {
            int before = ways.get(r).use;
            ways.get(r).use = 9;
            int worth = worth(strokes().get(ranks().get(0)[0]));
            ways.get(r).use = before;
            if (worth > most[1]) {
                most = new int[] {r, worth};
            }
        }
        return most;
    }

    static int bits(Set<Integer> some) {
        int bits = 0;
        for (int i : some) {
            bits |= 1 << i;
        }
        return bits;
    }
}
