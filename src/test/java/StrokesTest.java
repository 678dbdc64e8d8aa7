/** Promises 9 to 12: which roads go on, strokes and their ranks. */
public final class StrokesTest {
    private static final int MAX = Integer.MAX_VALUE;
    private static final int MIN = Integer.MIN_VALUE;
    private static final Check CHECK = new Check();

    public static void main(String[] args) {
        refusals();
        angles();
        straightestFirst();
        nearlyLike();
        likePairs();
        likePairsOfALeastRoad();
        laneAndHighway();
        thenTheRest();
        lesserRoadsAreLeft();
        ring();
        pathThatMeetsItself();
        numbers();
        ranksByTouching();
        likeWorth();
        rankRefusals();
        CHECK.end();
    }

    private static void due(String call, long got, long want) {
        CHECK.due(call, got, want);
    }

    private static RoadStrokes net(int[] xys, int[]... roads) {
        RoadStrokes x = new RoadStrokes();
        for (int i = 0; i + 1 < xys.length; i += 2) {
            due("meeting", x.meeting(xys[i], xys[i + 1]), i / 2 + 1);
        }
        for (int i = 0; i < roads.length; i++) {
            due("road", x.road(roads[i][0], roads[i][1], roads[i][2], roads[i][3]), i + 1);
        }
        return x;
    }

    private static int[] xys(int... v) {
        return v;
    }

    private static int[] road(int a, int b, int kind, int use) {
        return new int[] {a, b, kind, use};
    }

    private static void refusals() {
        RoadStrokes x = net(xys(0, 0, 5, 0, 10, 0), road(0, 1, 0, 0), road(1, 2, 0, 0));
        due("P9 joined", x.joined(1, 0), 1);
        due("P9 joined", x.joined(1, 1), 0);
        due("P9 NONE", x.joined(0, 0), -1);
        due("P9 NOT", x.joined(0, 1), -3);
        due("P9 NOT", x.joined(2, 0), -3);
        int[][] bad = {{-1, 0}, {3, 0}, {0, -1}, {0, 2}, {MIN, MAX}, {MAX, 0}, {1, MIN}};
        for (int[] a : bad) {
            due("P9 BAD", x.joined(a[0], a[1]), -2);
        }
        due("P10 along", x.along(1, 0, 1), 1);
        due("P10 along", x.along(1, 1, 0), 1);
        due("P10 NOT: one", x.along(1, 0, 0), -3);
        due("P10 NOT: second is not there", x.along(0, 0, 1), -3);
        due("P10 NOT: first is not there", x.along(2, 0, 1), -3);
        int[][] worse = {{-1, 0, 1}, {3, 0, 1}, {1, -1, 1}, {1, 2, 1}, {1, 0, -1}, {1, 0, 2}, {1, 2, 2},
            {MAX, MIN, MAX}, {1, MAX, MAX}};
        for (int[] a : worse) {
            due("P10 BAD", x.along(a[0], a[1], a[2]), -2);
        }
    }

    private static void angles() {
        RoadStrokes x = net(xys(10, 10, 0, 10, 20, 20, 20, 21, 20, 19, 0, 11, 10, 30),
            road(0, 1, 0, 0), road(0, 2, 0, 0), road(3, 0, 0, 0), road(0, 4, 0, 0), road(0, 5, 0, 0),
            road(0, 6, 0, 0));
        due("P10 just 135 degrees", x.along(0, 0, 1), 1);
        due("P10 a little less", x.along(0, 0, 2), 0);
        due("P10 a little more", x.along(0, 3, 0), 1);
        due("P10 nearly one way", x.along(0, 0, 4), 0);
        due("P10 a right angle", x.along(0, 0, 5), 0);
        due("P9 a little more is straighter", x.joined(0, 0), 3);
        due("P9 just 135 degrees is left", x.joined(0, 1), -1);
    }

    /** Roads 0 and 2 are like a line; 0 and 1, the lesser pair, are not. */
    private static void straightestFirst() {
        RoadStrokes x = net(xys(15, 15, 0, 15, 30, 16, 30, 15), road(0, 1, 1, 0), road(2, 0, 1, 0), road(0, 3, 1, 0));
        due("P9 straightest", x.joined(0, 0), 2);
        due("P9 straightest", x.joined(0, 2), 0);
        due("P9 left over", x.joined(0, 1), -1);
        due("P10 along all the same", x.along(0, 0, 1), 1);
        due("P11 roads", x.stroke(0, 6), 5);
        due("P24 pairs", x.count(7), 1);
    }

    /**
     * From (15, 15) to (0, 0), and to (30, 28) and (29, 28): p p / (u u v v) is 176400 / (450 394) and
     * 164025 / (450 365), which is more: 0.99492.. and 0.99863..; as ints the crosswise products would wrap.
     */
    private static void nearlyLike() {
        RoadStrokes x = net(xys(15, 15, 0, 0, 30, 28, 29, 28), road(1, 0, 0, 0), road(0, 2, 0, 0), road(0, 3, 0, 0));
        due("P9 the better fraction", x.joined(0, 0), 2);
    }

    private static void likePairs() {
        RoadStrokes x = net(xys(10, 10, 20, 10, 0, 12, 0, 8), road(0, 2, 0, 0), road(0, 3, 0, 0), road(0, 1, 0, 0));
        due("P9 the lesser least road", x.joined(0, 2), 0);
        due("P9 the other one is left", x.joined(0, 1), -1);
    }

    private static void likePairsOfALeastRoad() {
        RoadStrokes x = net(xys(10, 10, 20, 10, 0, 12, 0, 8), road(0, 1, 0, 0), road(0, 2, 0, 0), road(0, 3, 0, 0));
        due("P9 the lesser other one", x.joined(0, 0), 1);
        due("P9 the other one is left", x.joined(0, 2), -1);
    }

    private static void laneAndHighway() {
        RoadStrokes x = net(xys(10, 10, 0, 10, 20, 10, 20, 12), road(0, 1, 0, 0), road(0, 2, 2, 0), road(0, 3, 1, 0));
        due("P10 along", x.along(0, 0, 1), 1);
        due("P9 never a lane and a highway", x.joined(0, 1), -1);
        due("P9 but a lane and a street", x.joined(0, 0), 2);
        due("P9 lane to highway", x.alter(2, 0, 2), 1);
        due("P9 neither", x.joined(0, 0), -1);
        due("P9 street and highway", x.alter(0, 0, 1), 0);
        due("P9 the straightest", x.joined(0, 0), 1);
        x.alter(0, 0, 2);
        x.alter(1, 0, 0);
        due("P9 a highway and a lane", x.joined(0, 1), -1);
        due("P9 two highways", x.joined(0, 0), 2);
    }

    /** West and east first, though 1 with 2 and 0 with 3 are like; then 2 with 3, which are less straight. */
    private static void thenTheRest() {
        RoadStrokes x = net(xys(15, 15, 0, 15, 30, 15, 0, 18, 30, 18),
            road(0, 1, 0, 0), road(0, 2, 0, 0), road(0, 3, 0, 0), road(0, 4, 0, 0));
        due("P9 first pair", x.joined(0, 0), 1);
        due("P9 then the rest", x.joined(0, 2), 3);
        due("P9 then the rest", x.joined(0, 3), 2);
        due("P24 pairs", x.count(7), 2);
        due("P24 strokes", x.count(2), 2);
        due("P11 roads", x.stroke(1, 6), 12);
    }

    /** The straightest pair is 1 with 2; what is left of four is 0 with 3. */
    private static void lesserRoadsAreLeft() {
        RoadStrokes x = net(xys(15, 15, 0, 15, 30, 15, 0, 18, 30, 18),
            road(0, 3, 0, 0), road(0, 2, 0, 0), road(0, 1, 0, 0), road(0, 4, 0, 0));
        due("P9 first pair", x.joined(0, 1), 2);
        due("P9 then the rest", x.joined(0, 0), 3);
        due("P9 then the rest", x.joined(0, 3), 0);
        due("P11 roads", x.stroke(0, 6), 9);
    }

    private static void ring() {
        int[] at = xys(10, 0, 20, 0, 30, 10, 30, 20, 20, 30, 10, 30, 0, 20, 0, 10);
        RoadStrokes x = net(at, road(0, 1, 1, 0), road(1, 2, 1, 0), road(2, 3, 1, 0), road(3, 4, 1, 0),
            road(4, 5, 1, 0), road(5, 6, 1, 0), road(6, 7, 1, 0));
        due("P11 not closed yet", x.stroke(0, 3), 0);
        due("P24 none closed", x.count(5), 0);
        due("road", x.road(7, 0, 1, 0), 8);
        int[] want = {8, 120, 240, 1, 0, 0, 255};
        for (int what = 0; what <= 6; what++) {
            due("P11 stroke(0, " + what + ")", x.stroke(0, what), want[what]);
        }
        due("P24 closed", x.count(5), 1);
        due("P24 pairs", x.count(7), 8);
        due("P9 round the corner", x.joined(0, 0), 7);
        x.alter(0, 0, 0);
        x.alter(7, 0, 2);
        due("P11 a lane by a highway", x.stroke(0, 3), 0);
        due("P11 still one stroke", x.stroke(0, 0), 8);
    }

    /** A stroke that comes back to one of its own meetings is not closed by that. */
    private static void pathThatMeetsItself() {
        int[] at = xys(10, 0, 20, 0, 30, 10, 30, 20, 20, 30, 10, 30, 0, 20, 0, 10, 0, 0);
        RoadStrokes x = net(at, road(8, 0, 1, 0), road(0, 1, 1, 0), road(1, 2, 1, 0), road(2, 3, 1, 0),
            road(3, 4, 1, 0), road(4, 5, 1, 0), road(5, 6, 1, 0), road(6, 7, 1, 0), road(7, 0, 1, 0));
        due("P11 one stroke", x.stroke(0, 0), 9);
        due("P11 not closed", x.stroke(0, 3), 0);
        due("P9 straight on", x.joined(0, 0), 1);
        due("P9 it ends here", x.joined(0, 8), -1);
    }

    private static void numbers() {
        RoadStrokes x = net(xys(0, 0, 10, 0, 20, 0, 10, 10), road(2, 1, 0, 0), road(1, 3, 1, 2), road(0, 1, 0, 1));
        due("P11 by least roads", x.info(0, 6), 0);
        due("P11 by least roads", x.info(1, 6), 1);
        due("P11 by least roads", x.info(2, 6), 0);
        int[][] want = {{2, 20, 30, 0, 1, 0, 5}, {1, 10, 60, 0, 0, 0, 2}};
        for (int s = 0; s < 2; s++) {
            for (int what = 0; what <= 6; what++) {
                due("P11 stroke(" + s + ", " + what + ")", x.stroke(s, what), want[s][what]);
            }
        }
        int[][] bad = {{-1, 0}, {2, 0}, {0, -1}, {0, 7}, {MAX, 0}, {MIN, 0}, {0, MAX}, {0, MIN}};
        for (int[] a : bad) {
            due("P11 BAD", x.stroke(a[0], a[1]), -2);
        }
    }

    /** Stroke 2 is worth more than stroke 0, but does not touch: it begins another net. */
    private static void ranksByTouching() {
        RoadStrokes x = net(xys(0, 0, 10, 0, 10, 10, 20, 20, 30, 20, 30, 30),
            road(0, 1, 0, 0), road(1, 2, 0, 4), road(3, 4, 1, 1), road(4, 5, 0, 0));
        int[] order = {1, 0, 2, 3};
        int[] worth = {50, 60, 100, 110};
        int[] net = {0, 0, 1, 1};
        for (int i = 0; i < 4; i++) {
            due("P12 rank(" + i + ", 0)", x.rank(i, 0), order[i]);
            due("P12 rank(" + i + ", 1)", x.rank(i, 1), worth[i]);
            due("P11 rank of " + order[i], x.stroke(order[i], 4), i);
            due("P11 net of " + order[i], x.stroke(order[i], 5), net[i]);
        }
        due("P24 nets", x.count(3), 2);
        due("P24 length", x.count(4), 40);
        due("P24 worth", x.count(6), 110);
        due("P5 the other net first", x.alter(2, 1, 9), 1);
        due("P12 first", x.rank(0, 0), 2);
        due("P12 then what touches", x.rank(1, 0), 3);
        due("P11 net", x.stroke(0, 5), 1);
        due("P11 net", x.stroke(2, 5), 0);
    }

    private static void likeWorth() {
        RoadStrokes x = net(xys(0, 0, 10, 0, 10, 10, 0, 10, 20, 20, 30, 20),
            road(4, 5, 0, 0), road(0, 1, 0, 0), road(1, 2, 0, 0), road(2, 3, 0, 1));
        due("P12 most worth", x.rank(0, 0), 3);
        due("P12 what touches", x.rank(1, 0), 2);
        due("P12 what touches that", x.rank(2, 0), 1);
        due("P12 another net", x.rank(3, 0), 0);
        x.alter(3, 1, 0);
        due("P12 of like ones the least", x.rank(0, 0), 0);
        due("P12 of like ones the least", x.rank(1, 0), 1);
        due("P12 of like ones the least", x.rank(2, 0), 2);
    }

    private static void rankRefusals() {
        RoadStrokes x = net(xys(0, 0, 10, 0), road(0, 1, 0, 0));
        due("P12 NONE", x.rank(1, 0), -1);
        due("P12 NONE", x.rank(23, 1), -1);
        int[][] bad = {{-1, 0}, {24, 0}, {0, -1}, {0, 2}, {24, 1}, {MAX, 0}, {MIN, 1}, {0, MAX}, {23, 2}};
        for (int[] a : bad) {
            due("P12 BAD", x.rank(a[0], a[1]), -2);
        }
    }
}
