/** Promises 1 to 8: the net as it is told. */
public final class NetTest {
    private static final int NULL = -11;
    private static final int MAX = Integer.MAX_VALUE;
    private static final int MIN = Integer.MIN_VALUE;
    private static final Check CHECK = new Check();

    public static void main(String[] args) {
        newObject();
        meetings();
        meetingsAreFull();
        roads();
        roadsAreFull();
        undone();
        undoneInTurns();
        undoOfWhatWasRead();
        altered();
        readFromRows();
        readStops();
        readUntilFull();
        places();
        infos();
        CHECK.end();
    }

    private static void due(String call, long got, long want) {
        CHECK.due(call, got, want);
    }

    private static RoadStrokes withMeetings(int... xys) {
        RoadStrokes x = new RoadStrokes();
        for (int i = 0; i + 1 < xys.length; i += 2) {
            due("meeting", x.meeting(xys[i], xys[i + 1]), i / 2 + 1);
        }
        return x;
    }

    private static void row(RoadStrokes x, int s, int form, int... items) {
        due("sheet", x.sheet(s, form, items.length), items.length);
        for (int i = 0; i < items.length; i++) {
            due("put", x.put(s, form, i, items[i]), 1);
        }
    }

    private static void newObject() {
        RoadStrokes x = new RoadStrokes();
        for (int what = 0; what <= 8; what++) {
            due("P1 count(" + what + ")", x.count(what), 0);
        }
        for (int s = 0; s < 4; s++) {
            due("P1 lose(" + s + ")", x.lose(s), NULL);
        }
        due("P1 at(0, 0)", x.at(0, 0), -2);
        due("P1 info(0, 0)", x.info(0, 0), -2);
    }

    private static void meetings() {
        RoadStrokes x = new RoadStrokes();
        due("P2 first corner", x.meeting(0, 0), 1);
        due("P2 last corner", x.meeting(30, 30), 2);
        int[][] bad = {{-1, 0}, {0, -1}, {31, 0}, {0, 31}, {MAX, 0}, {0, MIN}, {31, 31}};
        for (int[] p : bad) {
            due("P2 BAD " + p[0] + ", " + p[1], x.meeting(p[0], p[1]), -2);
        }
        due("P2 NOT", x.meeting(0, 0), -3);
        due("P2 same x alone", x.meeting(0, 30), 3);
        due("P2 same y alone", x.meeting(30, 0), 4);
        due("P2 turned round", x.meeting(1, 2), 5);
        due("P2 turned round", x.meeting(2, 1), 6);
        due("P2 refusals change nothing", x.count(0), 6);
        due("P2 no FINDING", x.count(8), 0);
    }

    private static void meetingsAreFull() {
        RoadStrokes x = new RoadStrokes();
        for (int i = 0; i < 16; i++) {
            due("P2 meeting " + i, x.meeting(i, i), i + 1);
        }
        due("P2 FULL", x.meeting(20, 20), -4);
        due("P2 NOT ahead of FULL", x.meeting(3, 3), -3);
        due("P2 BAD ahead of FULL", x.meeting(31, 3), -2);
        due("P2 sixteen", x.count(0), 16);
        due("P2 undo makes room", x.undo(), 15);
        due("P2 again", x.meeting(20, 20), 16);
    }

    private static void roads() {
        RoadStrokes x = withMeetings(0, 0, 5, 0, 5, 5);
        due("P3 first", x.road(0, 1, 0, 0), 1);
        due("P3 greatest kind and use", x.road(2, 1, 2, 9), 2);
        int[][] bad = {{-1, 0, 0, 0}, {3, 0, 0, 0}, {0, -1, 0, 0}, {0, 3, 0, 0}, {0, 0, 0, 0}, {0, 2, -1, 0},
            {0, 2, 3, 0}, {0, 2, 0, -1}, {0, 2, 0, 10}, {MIN, MAX, MIN, MAX}, {0, 2, MAX, 0}, {0, 2, 0, MIN}};
        for (int[] r : bad) {
            due("P3 BAD", x.road(r[0], r[1], r[2], r[3]), -2);
        }
        due("P3 NOT", x.road(0, 1, 2, 5), -3);
        due("P3 NOT the other way round", x.road(1, 0, 0, 0), -3);
        due("P3 BAD ahead of NOT, kind", x.road(0, 1, 3, 0), -2);
        due("P3 BAD ahead of NOT, use", x.road(0, 1, 0, 10), -2);
        due("P3 refusals change nothing", x.count(1), 2);
        due("P3 kind stays", x.info(0, 2), 0);
        due("P3 third", x.road(0, 2, 1, 3), 3);
    }

    private static void roadsAreFull() {
        RoadStrokes x = withMeetings(0, 0, 1, 0, 2, 1, 3, 3, 4, 6, 5, 10, 6, 15, 7, 21);
        int made = 0;
        for (int a = 0; a < 8; a++) {
            for (int b = a + 1; b < 8; b++) {
                made++;
                due("P3 road " + made, x.road(a, b, 1, 1), made <= 24 ? made : -4);
            }
        }
        due("P3 NOT ahead of FULL", x.road(1, 0, 1, 1), -3);
        due("P3 BAD ahead of FULL", x.road(6, 7, 1, 10), -2);
        due("P3 twenty-four", x.count(1), 24);
        due("P3 undo makes room", x.undo(), 31);
        due("P3 again", x.road(6, 7, 1, 1), 24);
    }

    private static void undone() {
        RoadStrokes x = withMeetings(0, 0, 5, 0);
        due("P4 road", x.road(0, 1, 0, 4), 1);
        due("P4 meeting", x.meeting(5, 5), 3);
        due("P4 road", x.road(1, 2, 1, 0), 2);
        due("P4 refused road", x.road(1, 2, 1, 0), -3);
        due("P4 refused meeting", x.meeting(5, 5), -3);
        due("P4 alter is not undone", x.alter(0, 1, 7), 4);
        due("P4 undo road", x.undo(), 4);
        due("P4 one road", x.count(1), 1);
        due("P4 three meetings", x.count(0), 3);
        due("P4 altered use stays", x.info(0, 3), 7);
        due("P4 undo meeting", x.undo(), 3);
        due("P4 two meetings", x.count(0), 2);
        due("P4 the place is free", x.meeting(5, 5), 3);
        due("P4 undo it again", x.undo(), 3);
        due("P4 undo road", x.undo(), 2);
        due("P4 no road", x.count(1), 0);
        due("P4 no stroke", x.count(2), 0);
        due("P4 undo", x.undo(), 1);
        due("P4 undo", x.undo(), 0);
        due("P4 NOT", x.undo(), -3);
        due("P4 NOT again", x.undo(), -3);
        due("P4 begins anew", x.meeting(9, 9), 1);
    }

    /** Where a road was added before, a meeting is added now, and the other way round. */
    private static void undoneInTurns() {
        RoadStrokes x = withMeetings(0, 0, 5, 0, 5, 5);
        due("P4 road", x.road(0, 1, 0, 0), 1);
        due("P4 road", x.road(1, 2, 0, 0), 2);
        due("P4 undo road", x.undo(), 4);
        due("P4 meeting in its stead", x.meeting(9, 9), 4);
        due("P4 undo meeting", x.undo(), 4);
        due("P4 one road", x.count(1), 1);
        due("P4 three meetings", x.count(0), 3);
        due("P4 road in its stead", x.road(2, 0, 0, 0), 2);
        due("P4 undo road", x.undo(), 4);
        due("P4 one road", x.count(1), 1);
    }

    private static void undoOfWhatWasRead() {
        RoadStrokes x = withMeetings(0, 0, 5, 0, 5, 5);
        row(x, 2, 2, 0, 1, 0, 0, 1, 2, 0, 0);
        due("P4 read", x.read(2), 2);
        due("P4 undo takes one of them", x.undo(), 4);
        due("P4 one is left", x.count(1), 1);
        due("P4 undo the other one", x.undo(), 3);
        due("P4 undo a meeting", x.undo(), 2);
        due("P4 two meetings", x.count(0), 2);
    }

    private static void altered() {
        RoadStrokes x = withMeetings(0, 0, 5, 0, 10, 0);
        x.road(0, 1, 0, 3);
        x.road(1, 2, 2, 0);
        due("P5 a lane and a highway", x.count(2), 2);
        due("P5 kind", x.alter(0, 0, 2), 0);
        due("P5 strokes anew", x.count(2), 1);
        due("P5 worth anew", x.info(0, 5), 75);
        due("P5 use", x.alter(0, 1, 9), 3);
        due("P5 worth anew", x.stroke(0, 2), 105 + 60);
        due("P5 least kind", x.alter(0, 0, 0), 2);
        due("P5 least use", x.alter(0, 1, 0), 9);
        due("P5 what it was", x.alter(0, 1, 0), 0);
        int[][] bad = {{-1, 0, 0}, {2, 0, 0}, {0, -1, 0}, {0, 2, 0}, {0, 0, -1}, {0, 0, 3}, {0, 1, -1},
            {0, 1, 10}, {MAX, 0, 0}, {MIN, 1, 0}, {0, MAX, 1}, {0, 0, MIN}, {0, 1, MAX}};
        for (int[] a : bad) {
            due("P5 BAD", x.alter(a[0], a[1], a[2]), -2);
        }
        due("P5 kind stays", x.info(0, 2), 0);
        due("P5 use stays", x.info(0, 3), 0);
    }

    private static void readFromRows() {
        RoadStrokes x = withMeetings(0, 0, 5, 0, 10, 0, 10, 10);
        due("P6 BAD", x.read(-1), -2);
        due("P6 BAD", x.read(4), -2);
        due("P6 BAD", x.read(MIN), -2);
        due("P6 no FINDING yet", x.count(8), 0);
        due("P6 NULL", x.read(3), NULL);
        due("P6 FINDING", x.count(8), 1);
        due("P6 a road ahead", x.road(0, 1, 2, 9), 1);
        row(x, 0, 0, 2, 1, 1, 6, 2, 3, 0, 9, 0, 3, 2);
        due("P6 two are whole", x.read(0), 2);
        due("P6 three in all", x.count(1), 3);
        int[] want = {2, 1, 1, 6, 5, 70};
        for (int what = 0; what < want.length; what++) {
            due("P6 info(1, " + what + ")", x.info(1, what), want[what]);
        }
        due("P6 last", x.info(2, 5), 100);
        due("P6 again: each is there", x.read(0), 0);
        due("P6 the row stays", x.get(0, 0, 3), 6);
        row(x, 1, 1);
        due("P6 no items", x.read(1), 0);
        row(x, 1, 1, 0, 3, 0);
        due("P6 none whole", x.read(1), 0);
        row(x, 1, 1, 0, 3, 0, 0);
        due("P6 just one", x.read(1), 1);
        RoadStrokes y = withMeetings(0, 0, 5, 0, 10, 0, 10, 10);
        row(y, 1, 1, 0, 1, 0, 1, 1, 2, 1, 2, 2, 3, 2, 3, 3, 0, 0, 4);
        due("P6 four", y.read(1), 4);
        for (int r = 0; r < 4; r++) {
            due("P6 first meeting of " + r, y.info(r, 0), r);
            due("P6 use of " + r, y.info(r, 3), r + 1);
        }
    }

    private static void readStops() {
        RoadStrokes x = withMeetings(0, 0, 5, 0, 10, 0, 10, 10);
        row(x, 0, 2, 0, 1, 0, 0, 1, 0, 0, 0, 1, 2, 0, 0);
        due("P6 stops at NOT", x.read(0), 1);
        due("P6 one road", x.count(1), 1);
        row(x, 0, 2, 1, 2, 0, 0, 2, 3, 0, 10, 0, 3, 0, 0);
        due("P6 stops at BAD", x.read(0), 1);
        row(x, 0, 2, -1, 2, 0, 0, 2, 3, 0, 0);
        due("P6 stops at once", x.read(0), 0);
        due("P6 two roads", x.count(1), 2);
        due("P6 strokes are known", x.count(2), 1);
    }

    private static void readUntilFull() {
        RoadStrokes x = withMeetings(0, 0, 1, 0, 2, 1, 3, 3, 4, 6, 5, 10, 6, 15, 7, 21);
        int made = 0;
        for (int a = 0; a < 8 && made < 23; a++) {
            for (int b = a + 1; b < 8 && made < 23; b++) {
                made++;
                due("P6 road", x.road(a, b, 0, 0), made);
            }
        }
        row(x, 0, 0, 4, 7, 0, 0, 5, 6, 0, 0, 5, 7, 0, 0);
        due("P6 stops at FULL", x.read(0), 1);
        due("P6 twenty-four", x.count(1), 24);
    }

    private static void places() {
        RoadStrokes x = withMeetings(4, 7, 9, 0, 9, 30);
        x.road(0, 1, 0, 0);
        x.road(2, 0, 0, 0);
        due("P7 x", x.at(0, 0), 4);
        due("P7 y", x.at(0, 1), 7);
        due("P7 roads", x.at(0, 2), 2);
        due("P7 x", x.at(2, 0), 9);
        due("P7 y", x.at(2, 1), 30);
        due("P7 roads", x.at(1, 2), 1);
        due("P7 roads", x.at(2, 2), 1);
        int[][] bad = {{-1, 0}, {3, 0}, {0, -1}, {0, 3}, {MAX, 0}, {0, MIN}, {16, 2}};
        for (int[] a : bad) {
            due("P7 BAD", x.at(a[0], a[1]), -2);
        }
        x.undo();
        due("P7 a road less", x.at(0, 2), 1);
        due("P7 none", x.at(2, 2), 0);
    }

    private static void infos() {
        RoadStrokes x = withMeetings(30, 4, 10, 0, 10, 7, 0, 30);
        x.road(1, 0, 0, 5);
        x.road(1, 2, 1, 5);
        x.road(3, 0, 2, 9);
        int[][] want = {{1, 0, 0, 5, 24, 24 * 6, 0}, {1, 2, 1, 5, 7, 7 * 12, 1}, {3, 0, 2, 9, 56, 56 * 21, 2}};
        for (int r = 0; r < 3; r++) {
            for (int what = 0; what <= 6; what++) {
                due("P8 info(" + r + ", " + what + ")", x.info(r, what), want[r][what]);
            }
        }
        int[][] bad = {{-1, 0}, {3, 0}, {0, -1}, {0, 7}, {MIN, 0}, {0, MAX}, {24, 0}};
        for (int[] a : bad) {
            due("P8 BAD", x.info(a[0], a[1]), -2);
        }
    }
}
