/** Promises 13 to 17: sheets of the net. */
public final class SheetsTest {
    private static final int MAX = Integer.MAX_VALUE;
    private static final int MIN = Integer.MIN_VALUE;
    private static final Check CHECK = new Check();

    public static void main(String[] args) {
        ways();
        shorterWays();
        cutting();
        cuttingKeepsTheNetJoined();
        cuttingByEitherEnd();
        cuttingOfLikeOnes();
        cuttingKeepsRings();
        cuttingKeepsTheLastOfANet();
        cuttingOfOneThatMeetsItself();
        asManyStrokesAsRoads();
        cutRefusals();
        bridges();
        detours();
        useful();
        usefulOfLikeOnes();
        CHECK.end();
    }

    private static void due(String call, long got, long want) {
        CHECK.due(call, got, want);
    }

    private static RoadStrokes net(int[] xys, int[]... roads) {
        RoadStrokes x = new RoadStrokes();
        for (int i = 0; i + 1 < xys.length; i += 2) {
            due("meeting", x.meeting(xys[i], xys[i + 1]), i / 2 + 1);
        }
        for (int i = 0; i < roads.length; i++) {
            due("road", x.road(roads[i][0], roads[i][1], roads[i][2], roads[i][3]), i + 1);
        }
        return x;
    }

    private static int[] xys(int... v) {
        return v;
    }

    private static int[] road(int a, int b, int kind, int use) {
        return new int[] {a, b, kind, use};
    }

    private static void cuts(RoadStrokes x, int n, int limit, int... want) {
        for (int what = 0; what <= 3; what++) {
            due("P14 cut(" + n + ", " + limit + ", " + what + ")", x.cut(n, limit, what), want[what]);
        }
    }

    /** Ranks are 1, 0, 2, 3; the last two are another net. */
    private static void ways() {
        RoadStrokes x = net(xys(0, 0, 10, 0, 10, 10, 20, 20, 30, 20, 30, 30),
            road(0, 1, 0, 0), road(1, 2, 0, 4), road(3, 4, 1, 1), road(4, 5, 0, 0));
        due("P13 no roads", x.far(0, 1, 2), -1);
        due("P13 no way is needed", x.far(0, 5, 5), 0);
        due("P13 one road", x.far(1, 1, 2), 10);
        due("P13 the other way", x.far(1, 2, 1), 10);
        due("P13 not there yet", x.far(1, 0, 2), -1);
        due("P13 two roads", x.far(2, 0, 2), 20);
        due("P13 not there yet", x.far(3, 3, 5), -1);
        due("P13 all", x.far(4, 3, 5), 20);
        due("P13 another net", x.far(4, 0, 5), -1);
        int[][] bad = {{-1, 0, 0}, {5, 0, 0}, {0, -1, 0}, {0, 6, 0}, {0, 0, -1}, {0, 0, 6}, {MAX, 0, 0},
            {MIN, 0, 0}, {0, MAX, 0}, {0, 0, MIN}};
        for (int[] a : bad) {
            due("P13 BAD", x.far(a[0], a[1], a[2]), -2);
        }
    }

    /** The first way found is the longer one; the roads' numbers go against the way. */
    private static void shorterWays() {
        RoadStrokes x = net(xys(0, 0, 0, 30, 30, 30, 30, 1, 10, 5, 20, 1),
            road(3, 2, 2, 9), road(2, 1, 2, 9), road(1, 0, 2, 9), road(5, 3, 0, 0), road(4, 5, 0, 0), road(0, 4, 0, 0));
        int n = x.count(2);
        due("P13 by the outer roads", x.far(3, 0, 3), 30 + 30 + 29);
        due("P13 by the inner roads", x.far(n, 0, 3), 15 + 14 + 10);
        due("P13 part of the way", x.far(n, 4, 2), 14 + 10 + 29);
    }

    /** A highway; two lanes on it; a lane on one of these, without which that one is a dead end too. */
    private static void cutting() {
        RoadStrokes x = net(xys(0, 10, 10, 10, 20, 10, 10, 20, 20, 20, 25, 20),
            road(0, 1, 2, 0), road(1, 2, 2, 0), road(1, 3, 0, 0), road(2, 4, 0, 1), road(4, 5, 0, 0));
        due("four strokes", x.count(2), 4);
        cuts(x, 4, 0, 0, 15, 45, -1);
        cuts(x, 4, 5, 0, 15, 45, -1);
        cuts(x, 4, 6, 1, 7, 40, 3);
        cuts(x, 4, 10, 1, 7, 40, 3);
        cuts(x, 4, 11, 2, 5, 30, 3);
        cuts(x, 4, 21, 3, 1, 20, 3);
        cuts(x, 4, 9999, 3, 1, 20, 3);
        cuts(x, 3, 21, 2, 1, 20, 1);
        cuts(x, 2, 21, 1, 1, 20, 2);
        cuts(x, 1, 9999, 0, 1, 20, -1);
        cuts(x, 0, 9999, 0, 0, 0, -1);
    }

    /** Stroke 1 has a bare end and is worth least, but stroke 2 hangs on it. */
    private static void cuttingKeepsTheNetJoined() {
        RoadStrokes x = net(xys(0, 10, 10, 10, 20, 10, 10, 20, 10, 30, 5, 20),
            road(0, 1, 2, 0), road(1, 2, 2, 0), road(1, 3, 0, 0), road(3, 4, 0, 0), road(3, 5, 1, 9));
        due("three strokes", x.count(2), 3);
        cuts(x, 3, 50, 0, 7, 45, -1);
        cuts(x, 3, 100, 0, 7, 45, -1);
        cuts(x, 3, 101, 2, 1, 20, 2);
    }

    /** An end is bare or not by all the other strokes, at either end, at meeting 0 too. */
    private static void cuttingByEitherEnd() {
        RoadStrokes x = net(xys(0, 0, 10, 0, 10, 10, 20, 10), road(1, 0, 0, 0), road(1, 2, 2, 0), road(3, 2, 0, 0));
        cuts(x, 3, 11, 2, 2, 10, 2);
        RoadStrokes y = net(xys(0, 0, 10, 0, 10, 10, 20, 10), road(0, 1, 0, 0), road(1, 2, 2, 0), road(2, 3, 0, 0));
        cuts(y, 3, 11, 2, 2, 10, 2);
        RoadStrokes z = net(xys(0, 0, 10, 0, 10, 10, 20, 10), road(0, 1, 1, 9), road(1, 2, 0, 0), road(2, 3, 1, 9));
        cuts(z, 3, 11, 0, 7, 30, -1);
        cuts(z, 2, 11, 1, 1, 10, 1);
    }

    private static void cuttingOfLikeOnes() {
        RoadStrokes x = net(xys(0, 10, 10, 10, 20, 10, 10, 20, 20, 20, 0, 20),
            road(2, 4, 0, 0), road(1, 3, 0, 0), road(0, 5, 0, 0), road(0, 1, 2, 0), road(1, 2, 2, 0));
        due("four strokes", x.count(2), 4);
        cuts(x, 4, 11, 3, 8, 20, 2);
        due("P5 one is worth less", x.alter(2, 1, 1), 0);
        cuts(x, 4, 11, 2, 12, 30, 1);
        cuts(x, 4, 21, 3, 8, 20, 1);
    }

    /** A ring that is closed is never a dead end; what hangs on it is. */
    private static void cuttingKeepsRings() {
        int[] at = xys(10, 0, 20, 0, 30, 10, 30, 20, 20, 30, 10, 30, 0, 20, 0, 10, 10, 10);
        RoadStrokes x = net(at, road(0, 1, 0, 0), road(1, 2, 0, 0), road(2, 3, 0, 0), road(3, 4, 0, 0),
            road(4, 5, 0, 0), road(5, 6, 0, 0), road(6, 7, 0, 0), road(7, 0, 0, 0), road(0, 8, 1, 9));
        due("closed", x.stroke(0, 3), 1);
        due("worth less than what hangs on it", x.stroke(0, 2), 120);
        due("worth more", x.stroke(1, 2), 200);
        cuts(x, 2, 150, 0, 3, 130, -1);
        cuts(x, 2, 201, 1, 1, 120, 1);
    }

    private static void cuttingKeepsTheLastOfANet() {
        RoadStrokes x = net(xys(0, 0, 5, 0, 5, 5, 20, 20, 25, 20),
            road(0, 1, 0, 0), road(1, 2, 0, 0), road(3, 4, 0, 1));
        cuts(x, 3, 9999, 1, 5, 10, 1);
        cuts(x, 2, 9999, 0, 5, 10, -1);
        cuts(x, 1, 9999, 0, 4, 5, -1);
    }

    /** Where a stroke comes to an end on itself, no other stroke is there: that end is bare. */
    private static void cuttingOfOneThatMeetsItself() {
        int[] at = xys(10, 0, 20, 0, 30, 10, 30, 20, 20, 30, 10, 30, 0, 20, 0, 10, 0, 0, 0, 5);
        RoadStrokes x = net(at, road(8, 0, 1, 0), road(0, 1, 1, 0), road(1, 2, 1, 0), road(2, 3, 1, 0),
            road(3, 4, 1, 0), road(4, 5, 1, 0), road(5, 6, 1, 0), road(6, 7, 1, 0), road(7, 0, 1, 0),
            road(8, 9, 2, 9));
        due("two strokes", x.count(2), 2);
        due("its other end is not bare", x.at(8, 2), 2);
        cuts(x, 2, 261, 1, 1, 130, 1);
        due("P5 worth more", x.alter(9, 0, 1), 2);
        due("road", x.road(9, 7, 0, 0), 11);
        due("road goes on", x.count(2), 2);
        due("P14 bare by itself", x.cut(2, 9999, 3), 0);
        due("P14 the other one is left", x.cut(2, 9999, 1), 2);
    }

    /** Two columns of meetings, roads between them alone: none go on into another, so each is a stroke. */
    private static void asManyStrokesAsRoads() {
        RoadStrokes x = new RoadStrokes();
        for (int m = 0; m < 16; m++) {
            due("meeting", x.meeting(m < 8 ? 0 : 30, 4 * (m % 8)), m + 1);
        }
        for (int r = 0; r < 24; r++) {
            due("road", x.road(r % 8, 8 + (r % 8 + r / 8) % 8, 0, 0), r + 1);
        }
        due("P24 strokes", x.count(2), 24);
        due("P24 nets", x.count(3), 1);
        due("P24 length", x.count(4), 872);
        due("P24 pairs", x.count(7), 0);
        due("P11 the last one's roads", x.stroke(23, 6), 1 << 23);
        due("P12 the longest", x.rank(0, 0), 15);
        due("P12 of all", x.rank(23, 1), 872);
        due("P12 BAD", x.rank(24, 0), -2);
        due("P13 by way of many", x.far(24, 0, 7), 60 + 28);
        due("P14 no dead end", x.cut(24, 9999, 0), 0);
        due("P14 all are left", x.cut(24, 9999, 1), (1 << 24) - 1);
        due("P14 length", x.cut(24, 9999, 2), 872);
        due("P15 no bridge", x.bridges(24), 0);
        due("P15 BAD", x.bridges(25), -2);
        due("P15 the first one alone", x.bridges(1), 1 << 15);
        due("P18 row", x.sheet(0, 0, 60), 60);
        due("P23 all", x.write(0), 24);
        due("P23 the longest", x.get(0, 0, 0), 15);
        due("P17 which", x.useful(0), 15);
        due("P17 how much", x.useful(1), 580);
    }

    private static void cutRefusals() {
        RoadStrokes x = net(xys(0, 0, 5, 0, 5, 5), road(0, 1, 0, 0), road(1, 2, 0, 0));
        int[][] bad = {{-1, 5, 0}, {3, 5, 0}, {2, -1, 0}, {2, 10000, 0}, {2, 5, -1}, {2, 5, 4}, {MAX, 5, 0},
            {MIN, 5, 0}, {2, MAX, 0}, {2, MIN, 0}, {2, 5, MAX}};
        for (int[] a : bad) {
            due("P14 BAD", x.cut(a[0], a[1], a[2]), -2);
        }
    }

    /** A square with a tail, and a road apart; the tail is worth most, then the square's sides come. */
    private static void bridges() {
        RoadStrokes x = net(xys(0, 0, 10, 0, 10, 10, 0, 10, 10, 20, 20, 20, 20, 29),
            road(0, 1, 0, 0), road(3, 2, 0, 0), road(3, 0, 0, 0), road(2, 1, 1, 0), road(2, 4, 1, 0), road(5, 6, 0, 0));
        due("strokes", x.count(2), 5);
        due("P15 no roads", x.bridges(0), 0);
        due("P15 the tail goes on as a side", x.bridges(1), 24);
        due("P15 a side more", x.bridges(2), 25);
        due("P15 a side more", x.bridges(3), 27);
        due("P15 the square is whole", x.bridges(4), 16);
        due("P15 a road apart", x.bridges(5), 48);
        for (int n : new int[] {-1, 6, MAX, MIN}) {
            due("P15 BAD", x.bridges(n), -2);
        }
    }

    private static void detours() {
        RoadStrokes x = net(xys(0, 0, 10, 10, 10, 0, 20, 20, 0, 30),
            road(0, 1, 0, 0), road(0, 2, 0, 0), road(2, 1, 0, 0), road(1, 3, 0, 0), road(4, 0, 0, 0));
        due("P16 as long", x.detour(0), 0);
        due("P16 longer", x.detour(1), 20);
        due("P16 longer", x.detour(2), 20);
        due("P16 NONE", x.detour(3), -1);
        due("P16 NONE", x.detour(4), -1);
        for (int r : new int[] {-1, 5, MAX, MIN, 24}) {
            due("P16 BAD", x.detour(r), -2);
        }
        x.road(3, 4, 2, 0);
        due("P16 now there is one", x.detour(3), 30 + 30 + 20 - 20);
    }

    private static void useful() {
        RoadStrokes x = new RoadStrokes();
        due("P17 NONE", x.useful(0), -1);
        due("P17 NONE", x.useful(1), -1);
        for (int what : new int[] {-1, 2, MAX, MIN}) {
            due("P17 BAD", x.useful(what), -2);
        }
        x.meeting(0, 0);
        x.meeting(10, 0);
        x.meeting(20, 0);
        x.meeting(20, 10);
        due("P17 NONE", x.useful(0), -1);
        x.road(0, 1, 0, 0);
        due("P17 which", x.useful(0), 0);
        due("P17 how much", x.useful(1), 100);
        x.road(1, 2, 1, 0);
        due("P17 which", x.useful(0), 1);
        due("P17 how much", x.useful(1), 210);
        x.road(2, 3, 2, 0);
        due("P17 the first rank as it is", x.rank(0, 1), 120);
        due("P17 of all strokes", x.useful(0), 1);
        due("P17 both", x.useful(1), 210);
        x.alter(1, 1, 9);
        due("P17 the lane beside it", x.useful(0), 0);
        due("P17 how much", x.useful(1), 300);
        due("P17 nothing is changed", x.info(0, 3), 0);
        due("P17 nothing is changed", x.stroke(0, 2), 210);
        for (int what : new int[] {-1, 2, MAX, MIN}) {
            due("P17 BAD", x.useful(what), -2);
        }
    }

    private static void usefulOfLikeOnes() {
        RoadStrokes x = net(xys(0, 0, 1, 0, 30, 0, 0, 30, 5, 5, 5, 4),
            road(0, 1, 0, 0), road(2, 3, 2, 9), road(4, 5, 0, 0));
        due("P17 none makes it worth more: the least", x.useful(0), 0);
        due("P17 how much", x.useful(1), 1260);
        x.alter(1, 1, 8);
        due("P17 one does", x.useful(0), 1);
        due("P17 how much", x.useful(1), 1260);
        RoadStrokes y = net(xys(0, 0, 10, 0, 20, 0), road(0, 1, 1, 3), road(1, 2, 1, 3));
        due("P17 of like ones the least", y.useful(0), 0);
        due("P17 how much", y.useful(1), 280);
    }
}
