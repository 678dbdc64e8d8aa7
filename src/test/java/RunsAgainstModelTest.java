import java.util.List;
import java.util.Random;
import java.util.Set;
import java.util.TreeSet;

/**
 * Many nets, made by fixed seeds: each answer of the program against the Model's. One object is asked more than the
 * 512 calls that the document speaks of; this program does not count them.
 */
public final class RunsAgainstModelTest {
    private static final int RUNS = 200;

    private final Check check = new Check();
    private final Model model = new Model();
    private final RoadStrokes x = new RoadStrokes();
    private final Random random;
    private final int seed;
    private long h;

    private static int sumClosed, sumNets, sumCut, sumPairs;

    private RunsAgainstModelTest(int seed) {
        this.seed = seed;
        this.random = new Random(seed);
    }

    public static void main(String[] args) {
        int wrong = 0;
        for (int seed = 0; seed < RUNS && wrong == 0; seed++) {
            RunsAgainstModelTest run = new RunsAgainstModelTest(seed);
            run.build();
            run.compare();
            for (int i = 0; i < 3; i++) {
                run.change();
                run.compare();
            }
            wrong += run.check.wrong();
        }
        System.out.println(RUNS + " runs; closed " + sumClosed + ", nets " + sumNets + ", cut " + sumCut
            + ", joined " + sumPairs);
        if (wrong != 0 || sumClosed == 0 || sumCut == 0 || sumNets < RUNS * 4) {
            System.exit(1);
        }
    }

    private void due(String call, long got, long want) {
        check.due("seed " + seed + ": " + call, got, want);
    }

    private void build() {
        int meetings = random.nextInt(17);
        int step = List.of(1, 3, 5, 10).get(seed % 4);
        if (seed % 5 == 0) {
            ring();
        } else if (seed % 20 == 3) {
            columns();
            return;
        }
        for (int i = 0; i < 4 * meetings && model.places.size() < meetings; i++) {
            addMeeting(step * random.nextInt(30 / step + 1), step * random.nextInt(30 / step + 1));
        }
        int roads = random.nextInt(26);
        for (int i = 0; i < 3 * roads && model.ways.size() < roads; i++) {
            addRoad();
        }
    }

    /** Eight roads that turn by 45 degrees at most: closed, unless kinds keep two of them apart. */
    private void ring() {
        int[] xs = {10, 20, 30, 30, 20, 10, 0, 0};
        int[] ys = {0, 0, 10, 20, 30, 30, 20, 10};
        for (int i = 0; i < 8; i++) {
            addMeeting(xs[i], ys[i]);
        }
        for (int i = 0; i < 8; i++) {
            int kind = random.nextInt(8) == 0 ? 2 : random.nextInt(2);
            int use = random.nextInt(10);
            due("road", x.road(i, (i + 1) % 8, kind, use), model.addWay(i, (i + 1) % 8, kind, use));
        }
    }

    /** Roads between two columns never go on into another: as many strokes as roads. */
    private void columns() {
        for (int m = 0; m < 16; m++) {
            addMeeting(m < 8 ? 0 : 30, 4 * (m % 8));
        }
        for (int i = 0; i < 200 && model.ways.size() < 24; i++) {
            int a = random.nextInt(8);
            int b = 8 + random.nextInt(8);
            int use = random.nextInt(3);
            due("road(" + a + ", " + b + ")", x.road(a, b, 0, use), model.addWay(a, b, 0, use));
        }
    }

    private void addMeeting(int px, int py) {
        due("meeting(" + px + ", " + py + ")", x.meeting(px, py), model.addPlace(px, py));
    }

    private void addRoad() {
        int most = Math.max(1, model.places.size());
        int a = random.nextInt(most);
        int b = random.nextInt(most);
        int kind = random.nextInt(3);
        int use = random.nextInt(3) == 0 ? random.nextInt(10) : 0;
        due("road(" + a + ", " + b + ")", x.road(a, b, kind, use), model.addWay(a, b, kind, use));
    }

    private void change() {
        for (int i = 0; i < 3; i++) {
            int how = random.nextInt(4);
            if (how == 0) {
                due("undo()", x.undo(), model.undo());
            } else if (how == 1) {
                addRoad();
            } else if (!model.ways.isEmpty()) {
                alter(random.nextInt(model.ways.size()), how - 2);
            }
        }
    }

    private void alter(int r, int what) {
        Model.Way w = model.ways.get(r);
        int v = random.nextInt(what == 0 ? 3 : 10);
        due("alter(" + r + ", " + what + ", " + v + ")", x.alter(r, what, v), what == 0 ? w.kind : w.use);
        if (what == 0) {
            w.kind = v;
        } else {
            w.use = v;
        }
    }

    private void mix(String call, long got, long want) {
        due(call, got, want);
        h = 31 * h + want;
    }

    /** In the digest's order, so that it is told by the way. */
    private void compare() {
        h = 17;
        compareCounts();
        for (int m = 0; m < model.places.size(); m++) {
            int at = m;
            mix("at 0", x.at(m, 0), model.places.get(m).x());
            mix("at 1", x.at(m, 1), model.places.get(m).y());
            mix("at 2", x.at(m, 2), model.ways.stream().filter(w -> w.a == at || w.b == at).count());
        }
        for (int r = 0; r < model.ways.size(); r++) {
            compareRoad(r);
        }
        List<TreeSet<Integer>> strokes = model.strokes();
        List<int[]> ranks = model.ranks();
        int sum = 0;
        for (int s = 0; s < strokes.size(); s++) {
            compareStroke(s, strokes.get(s), ranks);
            sum += model.worth(strokes.get(ranks.get(s)[0]));
            mix("rank 0", x.rank(s, 0), ranks.get(s)[0]);
            mix("rank 1", x.rank(s, 1), sum);
        }
        for (int n = 0; n <= strokes.size(); n++) {
            compareSheet(n, strokes);
        }
        int[] useful = model.useful();
        mix("useful(0)", x.useful(0), useful[0]);
        mix("useful(1)", x.useful(1), useful[1]);
        due("digest()", x.digest(), h);
        compareAngles();
    }

    private void compareCounts() {
        List<TreeSet<Integer>> strokes = model.strokes();
        List<int[]> ranks = model.ranks();
        int nets = ranks.isEmpty() ? 0 : ranks.get(ranks.size() - 1)[1] + 1;
        int closed = 0;
        Set<Integer> roads = new TreeSet<>();
        for (TreeSet<Integer> s : strokes) {
            closed += model.ends(s).isEmpty() ? 1 : 0;
            roads.addAll(s);
        }
        mix("count(0)", x.count(0), model.places.size());
        mix("count(1)", x.count(1), model.ways.size());
        mix("count(2)", x.count(2), strokes.size());
        mix("count(3)", x.count(3), nets);
        mix("count(4)", x.count(4), model.length(roads));
        mix("count(5)", x.count(5), closed);
        mix("count(6)", x.count(6), model.worth(roads));
        mix("count(7)", x.count(7), model.pairs());
        sumClosed += closed;
        sumNets += nets;
        sumPairs += model.pairs();
    }

    private void compareRoad(int r) {
        Model.Way w = model.ways.get(r);
        int stroke = 0;
        List<TreeSet<Integer>> strokes = model.strokes();
        for (int s = 0; s < strokes.size(); s++) {
            stroke = strokes.get(s).contains(r) ? s : stroke;
        }
        int[] want = {w.a, w.b, w.kind, w.use, model.length(r), model.worth(r), stroke};
        for (int what = 0; what <= 6; what++) {
            mix("info(" + r + ", " + what + ")", x.info(r, what), want[what]);
        }
        mix("joined(" + w.a + ", " + r + ")", x.joined(w.a, r), model.joined(w.a, r));
        mix("joined(" + w.b + ", " + r + ")", x.joined(w.b, r), model.joined(w.b, r));
        mix("detour(" + r + ")", x.detour(r), model.detour(r));
    }

    private void compareStroke(int s, TreeSet<Integer> roads, List<int[]> ranks) {
        int rank = 0;
        for (int i = 0; i < ranks.size(); i++) {
            rank = ranks.get(i)[0] == s ? i : rank;
        }
        int closed = model.ends(roads).isEmpty() ? 1 : 0;
        int[] want = {roads.size(), model.length(roads), model.worth(roads), closed, rank, ranks.get(rank)[1],
            Model.bits(roads)};
        for (int what = 0; what <= 6; what++) {
            mix("stroke(" + s + ", " + what + ")", x.stroke(s, what), want[what]);
        }
    }

    private void compareSheet(int n, List<TreeSet<Integer>> strokes) {
        Set<Integer> roads = model.sheetRoads(n);
        int m = model.places.size();
        mix("bridges(" + n + ")", x.bridges(n), model.bridges(roads));
        int[] want = cutAnswers(n, 40, strokes);
        for (int what = 0; what <= 3; what++) {
            mix("cut(" + n + ", 40, " + what + ")", x.cut(n, 40, what), want[what]);
        }
        mix("far(" + n + ", 0, 1)", x.far(n, 0, 1), m < 2 ? -2 : model.far(roads, 0, 1));
        mix("far(" + n + ", 0, last)", x.far(n, 0, m - 1), m < 1 ? -2 : model.far(roads, 0, m - 1));

        int limit = random.nextInt(3) == 0 ? 9999 : random.nextInt(400);
        int[] other = cutAnswers(n, limit, strokes);
        for (int what = 0; what <= 3; what++) {
            due("cut(" + n + ", " + limit + ", " + what + ")", x.cut(n, limit, what), other[what]);
        }
        if (m > 0) {
            int a = random.nextInt(m);
            int b = random.nextInt(m);
            due("far(" + n + ", " + a + ", " + b + ")", x.far(n, a, b), model.far(roads, a, b));
        }
    }

    private int[] cutAnswers(int n, int limit, List<TreeSet<Integer>> strokes) {
        List<Integer> gone = model.cut(n, limit);
        Set<Integer> left = model.sheet(n);
        left.removeAll(gone);
        int length = left.stream().mapToInt(s -> model.length(strokes.get(s))).sum();
        sumCut += gone.size();
        return new int[] {gone.size(), Model.bits(left), length, gone.isEmpty() ? -1 : gone.get(0)};
    }

    private void compareAngles() {
        int roads = model.ways.size();
        for (int m = 0; m < model.places.size(); m++) {
            for (int a = 0; a < roads; a++) {
                int joined = model.isThere(a, m) ? model.joined(m, a) : -3;
                due("joined(" + m + ", " + a + ")", x.joined(m, a), joined);
                int b = random.nextInt(roads);
                boolean both = a != b && model.isThere(a, m) && model.isThere(b, m);
                int along = !both ? -3 : model.pair(m, a, b) == null ? 0 : 1;
                due("along(" + m + ", " + a + ", " + b + ")", x.along(m, a, b), along);
            }
        }
    }
}
