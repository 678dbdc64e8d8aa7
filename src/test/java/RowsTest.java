/** Promises 18 to 25: rows, counts and the digest. */
public final class RowsTest {
    private static final int NULL = -11, INDEX = -12, CAST = -13, STORE = -14, SIZE = -15;
    private static final int MAX = Integer.MAX_VALUE;
    private static final int MIN = Integer.MIN_VALUE;
    private static final Check CHECK = new Check();

    public static void main(String[] args) {
        sheets();
        losing();
        putting();
        getting();
        lowestBits();
        copying();
        copyingOntoItself();
        copyRefusals();
        writing();
        counts();
        digestOfNothing();
        digestOfOneMeeting();
        digestOfOneRoad();
        digestCutsByForty();
        CHECK.end();
    }

    private static void due(String call, long got, long want) {
        CHECK.due(call, got, want);
    }

    /** An answer, and the number of the latest FINDING after it. */
    private static void due(RoadStrokes x, String call, long got, long want, int finding) {
        CHECK.due(call, got, want);
        CHECK.due(call + ", then count(8)", x.count(8), finding);
    }

    private static void sheets() {
        RoadStrokes x = new RoadStrokes();
        due("P18 none", x.sheet(0, 0, 0), 0);
        due("P18 none is a row too", x.lose(0), 0);
        due("P18 sixty", x.sheet(3, 2, 60), 60);
        int[][] bad = {{-1, 0, 1}, {4, 0, 1}, {0, -1, 1}, {0, 3, 1}, {0, 0, 61}, {MAX, 0, 1}, {MIN, 0, 1},
            {0, MAX, 1}, {0, MIN, 1}, {0, 0, MAX}, {-1, 0, -1}, {0, 3, -1}};
        for (int[] a : bad) {
            due(x, "P18 BAD", x.sheet(a[0], a[1], a[2]), -2, 0);
        }
        due(x, "P18 SIZE", x.sheet(3, 0, -1), SIZE, 5);
        due(x, "P18 SIZE", x.sheet(0, 0, MIN), SIZE, 5);
        due("P18 the row stays", x.get(3, 2, 59), 0);
        due("P18 the lost one stays lost", x.lose(0), NULL);
        due("P18 put", x.put(3, 2, 59, 8), 1);
        due("P18 put", x.put(3, 2, 0, 8), 1);
        due("P18 refused", x.sheet(3, 2, 61), -2);
        due("P18 the item stays", x.get(3, 2, 59), 8);
        due("P18 anew", x.sheet(3, 2, 60), 60);
        due("P18 0 at first", x.get(3, 2, 59), 0);
        due("P18 0 at first", x.get(3, 2, 0), 0);
        due("P18 of another form", x.sheet(3, 1, 2), 2);
        due("P18 another form", x.get(3, 1, 1), 0);
        due("P18 fewer items", x.get(3, 1, 2), MIN);
    }

    private static void losing() {
        RoadStrokes x = new RoadStrokes();
        due("sheet", x.sheet(2, 1, 7), 7);
        due("put", x.put(2, 1, 3, 9), 1);
        for (int s : new int[] {-1, 4, MAX, MIN}) {
            due(x, "P19 BAD", x.lose(s), -2, 0);
        }
        due("P19 how many", x.lose(2), 7);
        due("P19 no FINDING", x.count(8), 0);
        due(x, "P19 NULL", x.lose(2), NULL, 1);
        due(x, "P19 NULL", x.lose(0), NULL, 1);
        due("sheet", x.sheet(2, 1, 7), 7);
        due("P19 nothing is left", x.get(2, 1, 3), 0);
    }

    private static void putting() {
        RoadStrokes x = new RoadStrokes();
        due(x, "P20 NULL", x.put(1, 0, 0, 0), NULL, 1);
        due("sheet", x.sheet(1, 1, 3), 3);
        due("P20 first", x.put(1, 1, 0, 5), 1);
        due("P20 last", x.put(1, 1, 2, 7), 1);
        int[][] bad = {{-1, 0, 0}, {4, 0, 0}, {1, -1, 0}, {1, 3, 0}, {0, 3, 0}, {MAX, MIN, 0}};
        for (int[] a : bad) {
            due(x, "P20 BAD", x.put(a[0], a[1], a[2], 1), -2, 1);
        }
        due(x, "P20 CAST", x.put(1, 0, 0, 1), CAST, 3);
        due(x, "P20 INDEX", x.put(1, 1, 3, 1), INDEX, 2);
        due(x, "P20 CAST ahead of INDEX", x.put(1, 2, 3, 1), CAST, 3);
        due(x, "P20 INDEX", x.put(1, 1, -1, 1), INDEX, 2);
        due(x, "P20 NULL ahead of INDEX", x.put(2, 1, -1, 1), NULL, 1);
        due(x, "P20 INDEX", x.put(1, 1, MIN, 1), INDEX, 2);
        due(x, "P20 INDEX", x.put(1, 1, MAX, 1), INDEX, 2);
        due("P21 first", x.get(1, 1, 0), 5);
        due("P21 between", x.get(1, 1, 1), 0);
        due("P21 last", x.get(1, 1, 2), 7);
    }

    private static void getting() {
        RoadStrokes x = new RoadStrokes();
        int[][] bad = {{-1, 0, 0}, {4, 0, 0}, {1, -1, 0}, {1, 3, 0}, {MIN, MAX, 0}};
        for (int[] a : bad) {
            due(x, "P21 BAD", x.get(a[0], a[1], a[2]), MIN, 0);
        }
        due(x, "P21 NULL", x.get(1, 0, 0), MIN, 1);
        due("sheet", x.sheet(1, 2, 3), 3);
        due(x, "P21 CAST", x.get(1, 1, 0), MIN, 3);
        due(x, "P21 INDEX", x.get(1, 2, 3), MIN, 2);
        due(x, "P21 CAST ahead of INDEX", x.get(1, 0, 3), MIN, 3);
        due(x, "P21 INDEX", x.get(1, 2, -1), MIN, 2);
        due(x, "P21 NULL ahead of all", x.get(2, 2, -1), MIN, 1);
        due(x, "P21 INDEX", x.get(1, 2, MAX), MIN, 2);
        due(x, "P21 what is found last stays", x.get(1, 2, 0), 0, 2);
        due(x, "P21 BAD is no FINDING", x.get(4, 2, 0), MIN, 2);
    }

    private static void lowestBits() {
        RoadStrokes x = new RoadStrokes();
        int[] values = {127, 128, 255, 256, -1, -129, 32767, 32768, 65536, MAX, MIN};
        for (int form = 0; form <= 2; form++) {
            due("sheet", x.sheet(form, form, 1), 1);
            for (int v : values) {
                int want = form == 0 ? (byte) v : form == 1 ? (short) v : v;
                due("P20 put " + v, x.put(form, form, 0, v), 1);
                due("P20 as of form " + form + ": " + v, x.get(form, form, 0), want);
            }
        }
        due("P20 a byte wraps", x.put(0, 0, 0, 200), 1);
        due("P20 a byte wraps", x.get(0, 0, 0), -56);
        due("P20 a short wraps", x.put(1, 1, 0, 40000), 1);
        due("P20 a short wraps", x.get(1, 1, 0), -25536);
    }

    private static void fill(RoadStrokes x, int s, int form, int n, int base) {
        due("sheet", x.sheet(s, form, n), n);
        for (int i = 0; i < n; i++) {
            due("put", x.put(s, form, i, base + i), 1);
        }
    }

    private static void items(RoadStrokes x, String what, int s, int form, int... want) {
        for (int i = 0; i < want.length; i++) {
            due(what + ", item " + i, x.get(s, form, i), want[i]);
        }
    }

    private static void copying() {
        RoadStrokes x = new RoadStrokes();
        fill(x, 0, 1, 5, 10);
        fill(x, 1, 1, 4, 50);
        due("P22 copy", x.copy(0, 3, 1, 1, 2), 1);
        items(x, "P22", 1, 1, 50, 13, 14, 53);
        items(x, "P22", 0, 1, 10, 11, 12, 13, 14);
        due("P22 all", x.copy(1, 0, 0, 1, 4), 1);
        items(x, "P22", 0, 1, 10, 50, 13, 14, 53);
        due("P22 none", x.copy(0, 5, 1, 4, 0), 1);
        due("P22 no FINDING", x.count(8), 0);
    }

    private static void copyingOntoItself() {
        RoadStrokes x = new RoadStrokes();
        fill(x, 2, 2, 6, 1);
        due("P22 up", x.copy(2, 0, 2, 2, 4), 1);
        items(x, "P22 as they were", 2, 2, 1, 2, 1, 2, 3, 4);
        fill(x, 2, 2, 6, 1);
        due("P22 down", x.copy(2, 2, 2, 0, 4), 1);
        items(x, "P22 as they were", 2, 2, 3, 4, 5, 6, 5, 6);
    }

    private static void copyRefusals() {
        RoadStrokes x = new RoadStrokes();
        fill(x, 0, 0, 5, 10);
        fill(x, 1, 0, 3, 50);
        fill(x, 2, 1, 3, 70);
        for (int s : new int[] {-1, 4, MAX, MIN}) {
            due(x, "P22 BAD", x.copy(s, 0, 1, 0, 1), -2, 0);
            due(x, "P22 BAD", x.copy(0, 0, s, 0, 1), -2, 0);
            due(x, "P22 BAD ahead of NULL", x.copy(3, 0, s, 0, 1), -2, 0);
        }
        due(x, "P22 NULL", x.copy(3, 0, 1, 0, 1), NULL, 1);
        due(x, "P22 STORE", x.copy(0, 0, 2, 0, 1), STORE, 4);
        due(x, "P22 NULL", x.copy(0, 0, 3, 0, 1), NULL, 1);
        due(x, "P22 STORE ahead of INDEX", x.copy(0, -1, 2, 9, 99), STORE, 4);
        due(x, "P22 NULL ahead of INDEX", x.copy(0, -1, 3, 9, 99), NULL, 1);
        int[][] index = {{-1, 0, 1}, {0, -1, 1}, {0, 0, -1}, {3, 0, 3}, {0, 1, 3}, {6, 0, 0}, {0, 4, 0},
            {0, 0, 4}, {MAX, 0, 1}, {0, MAX, 1}, {0, 0, MAX}, {MAX, MAX, MAX}, {MIN, 0, 1}, {0, MIN, 1},
            {0, 0, MIN}, {1, 1, MAX}};
        for (int[] a : index) {
            due(x, "P22 INDEX", x.copy(0, a[0], 1, a[1], a[2]), INDEX, 2);
            due("P22 FINDING of another number", x.lose(3), NULL);
        }
        items(x, "P22 nothing is changed", 1, 0, 50, 51, 52);
    }

    private static void writing() {
        RoadStrokes x = new RoadStrokes();
        int[] at = {0, 0, 10, 0, 10, 10, 20, 20, 30, 20, 30, 30};
        for (int i = 0; i < at.length; i += 2) {
            x.meeting(at[i], at[i + 1]);
        }
        due("P23 BAD", x.write(-1), -2);
        due("P23 BAD", x.write(4), -2);
        due("P23 BAD", x.write(MAX), -2);
        due(x, "P23 NULL", x.write(1), NULL, 1);
        fill(x, 1, 0, 6, 90);
        due("P23 no strokes", x.write(1), 0);
        items(x, "P23 nothing", 1, 0, 90, 91);
        x.road(0, 1, 0, 0);
        x.road(1, 2, 0, 4);
        x.road(3, 4, 1, 1);
        x.road(4, 5, 0, 0);
        due("P23 more items", x.write(1), 4);
        items(x, "P23", 1, 0, 1, 0, 2, 3, 94, 95);
        fill(x, 2, 2, 3, 90);
        due("P23 fewer items", x.write(2), 3);
        items(x, "P23", 2, 2, 1, 0, 2);
        fill(x, 3, 1, 0, 0);
        due("P23 no items", x.write(3), 0);
    }

    private static void counts() {
        RoadStrokes x = new RoadStrokes();
        int[] at = {0, 0, 10, 0, 20, 0, 20, 10, 5, 20, 6, 20, 30, 30};
        for (int i = 0; i < at.length; i += 2) {
            x.meeting(at[i], at[i + 1]);
        }
        x.road(0, 1, 0, 0);
        x.road(1, 2, 1, 1);
        x.road(2, 3, 2, 1);
        x.road(4, 5, 0, 9);
        int[] want = {7, 4, 3, 2, 31, 0, 10 + 40 + 130 + 10, 1, 0};
        for (int what = 0; what <= 8; what++) {
            due("P24 count(" + what + ")", x.count(what), want[what]);
        }
        for (int what : new int[] {-1, 9, MAX, MIN}) {
            due("P24 BAD", x.count(what), -2);
        }
        due(x, "P24 NULL", x.read(0), NULL, 1);
        due(x, "P24 SIZE", x.sheet(0, 0, -5), SIZE, 5);
        due("sheet", x.sheet(0, 0, 1), 1);
        due(x, "P24 CAST", x.get(0, 1, 0), MIN, 3);
        due("P24 a good call keeps it", x.get(0, 0, 0), 0);
        due("P24 latest", x.count(8), 3);
        due("P24 refusals keep it", x.undo(), 10);
        due("P24 latest", x.count(8), 3);
    }

    private static long folded(int... values) {
        long h = 17;
        for (int v : values) {
            h = 31 * h + v;
        }
        return h;
    }

    private static void digestOfNothing() {
        RoadStrokes x = new RoadStrokes();
        long want = folded(0, 0, 0, 0, 0, 0, 0, 0,
            0, 0, 0, 0, -1, -2, -2,
            -1, -1);
        due("P25 digest of nothing", x.digest(), want);
        due("NULL", x.lose(0), NULL);
        due("P25 FINDINGS do not count", x.digest(), want);
        due("P25 nor does it make one", x.count(8), 1);
    }

    private static void digestOfOneMeeting() {
        RoadStrokes x = new RoadStrokes();
        x.meeting(7, 9);
        due("P25 digest of a meeting", x.digest(), folded(1, 0, 0, 0, 0, 0, 0, 0,
            7, 9, 0,
            0, 0, 0, 0, -1, -2, 0,
            -1, -1));
    }

    private static void digestOfOneRoad() {
        RoadStrokes x = new RoadStrokes();
        x.meeting(0, 0);
        x.meeting(3, 4);
        x.meeting(9, 9);
        x.road(0, 1, 1, 2);
        due("P25 digest of a road", x.digest(), folded(3, 1, 1, 1, 7, 0, 42, 0,
            0, 0, 1, 3, 4, 1, 9, 9, 0,
            0, 1, 1, 2, 7, 42, 0, -1, -1, -1,
            1, 7, 42, 0, 0, 0, 1, 0, 42,
            0, 0, 0, 0, -1, -1, -1,
            1, 0, 1, 7, -1, 7, -1,
            0, 140));
    }

    /** A dead end worth 30 is cut by the digest, one worth 40 is not. */
    private static void digestCutsByForty() {
        RoadStrokes x = new RoadStrokes();
        x.meeting(0, 0);
        x.meeting(10, 0);
        x.meeting(10, 10);
        x.road(0, 1, 0, 9);
        x.road(1, 2, 1, 1);
        due("P25 worth 40", x.digest(), folded(3, 2, 2, 1, 20, 0, 140, 0,
            0, 0, 1, 10, 0, 2, 10, 10, 1,
            0, 1, 0, 9, 10, 100, 0, -1, -1, -1,
            1, 2, 1, 1, 10, 40, 1, -1, -1, -1,
            1, 10, 100, 0, 0, 0, 1, 0, 100,
            1, 10, 40, 0, 1, 0, 2, 1, 140,
            0, 0, 0, 0, -1, -1, -1,
            1, 0, 1, 10, -1, 10, -1,
            3, 0, 3, 20, -1, 10, 20,
            1, 200));
        x.alter(1, 0, 0);
        x.alter(1, 1, 2);
        due("P25 worth 30", x.digest(), folded(3, 2, 2, 1, 20, 0, 130, 0,
            0, 0, 1, 10, 0, 2, 10, 10, 1,
            0, 1, 0, 9, 10, 100, 0, -1, -1, -1,
            1, 2, 0, 2, 10, 30, 1, -1, -1, -1,
            1, 10, 100, 0, 0, 0, 1, 0, 100,
            1, 10, 30, 0, 1, 0, 2, 1, 130,
            0, 0, 0, 0, -1, -1, -1,
            1, 0, 1, 10, -1, 10, -1,
            3, 1, 1, 10, 1, 10, 20,
            0, 100));
    }
}
