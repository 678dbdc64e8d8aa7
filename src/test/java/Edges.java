import java.util.ArrayList;
import java.util.List;

/** What the tests of the edges share: objects told alike, and refusals that must leave one as the other is. */
class Edges {
    static final int NONE = -1, BAD = -2, NOT = -3, FULL = -4;
    static final int NULL = 1, INDEX = 2, CAST = 3, STORE = 4, SIZE = 5;
    static final int MIN = Integer.MIN_VALUE, MAX = Integer.MAX_VALUE;

    interface Told {
        void to(RoadStrokes x);
    }

    interface Call {
        long on(RoadStrokes x);
    }

    private final Check check = new Check();

    void end() {
        check.end();
    }

    void due(String what, long got, long want) {
        check.due(what, got, want);
    }

    /** A call on a new object that was told so. */
    void answers(String what, Told told, Call call, long want) {
        due(what, call.on(made(told)), want);
    }

    /** A refusal that is no FINDING: nothing is changed, whatever was found before. */
    void refused(String what, Told told, Call call, int answer) {
        unchanged(what, told, call, answer, 0);
        unchanged(what + ", a FINDING ahead", with(told, Edges::findSize), call, answer, 0);
    }

    /** A question: it is answered so, and nothing is changed by it. */
    void asked(String what, Told told, Call call, int answer) {
        unchanged(what, told, call, answer, 0);
    }

    /** A FINDING: nothing is changed but count(8). */
    void found(String what, Told told, Call call, int finding) {
        found(what, told, call, finding, -10 - finding);
    }

    void found(String what, Told told, Call call, int finding, int answer) {
        unchanged(what, told, call, answer, finding);
        if (finding != SIZE) {
            unchanged(what + ", another FINDING ahead", with(told, Edges::findSize), call, answer, finding);
        }
    }

    private static void findSize(RoadStrokes x) {
        x.sheet(0, 0, -1);
    }

    private void unchanged(String what, Told told, Call call, int answer, int finding) {
        RoadStrokes asked = made(told);
        RoadStrokes spared = made(told);
        int before = spared.count(8);
        due(what, call.on(asked), answer);
        due(what + ": count(8)", asked.count(8), finding == 0 ? before : finding);
        check.holds(what + ": nothing else is changed", stateOf(asked).equals(stateOf(spared)));
    }

    /** All that can be told of an object but count(8), in fewer than 430 calls; it is used up by that. */
    private static List<Long> stateOf(RoadStrokes x) {
        List<Long> all = new ArrayList<>();
        for (int what = 0; what <= 7; what++) {
            all.add((long) x.count(what));
        }
        all.add(x.digest());
        for (int s = 0; s < 4; s++) {
            addRow(all, x, s);
        }
        for (int left = x.count(0) + x.count(1); left > 0; left--) {
            all.add((long) x.undo());
            all.add((long) x.count(0));
            all.add((long) x.count(1));
        }
        all.add((long) x.undo());
        return all;
    }

    private static void addRow(List<Long> all, RoadStrokes x, int s) {
        for (int form = 0; form <= 2; form++) {
            // item -1 is never there, so the FINDING tells whether the row is LOST or of another FORM
            x.get(s, form, -1);
            int finding = x.count(8);
            all.add((long) finding);
            for (int i = 0; i < 60 && finding == INDEX; i++) {
                all.add((long) x.get(s, form, i));
            }
        }
        all.add((long) x.lose(s));
    }

    static RoadStrokes made(Told told) {
        RoadStrokes x = new RoadStrokes();
        told.to(x);
        return x;
    }

    static Told with(Told told, Told more) {
        return x -> {
            told.to(x);
            more.to(x);
        };
    }

    static void nothing(RoadStrokes x) {
    }

    static int[] xys(int... v) {
        return v;
    }

    static int[] road(int a, int b, int kind, int use) {
        return new int[] {a, b, kind, use};
    }

    static Told net(int[] xys, int[]... roads) {
        return x -> {
            for (int i = 0; i + 1 < xys.length; i += 2) {
                mustBe(x.meeting(xys[i], xys[i + 1]), i / 2 + 1);
            }
            for (int i = 0; i < roads.length; i++) {
                mustBe(x.road(roads[i][0], roads[i][1], roads[i][2], roads[i][3]), i + 1);
            }
        };
    }

    static Told row(int s, int form, int... items) {
        return x -> {
            mustBe(x.sheet(s, form, items.length), items.length);
            for (int i = 0; i < items.length; i++) {
                mustBe(x.put(s, form, i, items[i]), 1);
            }
        };
    }

    /** Two columns of eight meetings. */
    static void sixteenMeetings(RoadStrokes x) {
        for (int m = 0; m < 16; m++) {
            mustBe(x.meeting(m < 8 ? 0 : 30, 4 * (m % 8)), m + 1);
        }
    }

    /** Roads from column to column, lanes not used; none go on into another, so each is a stroke. */
    static void columns(RoadStrokes x, int roads) {
        sixteenMeetings(x);
        for (int r = 0; r < roads; r++) {
            mustBe(x.road(r % 8, 8 + (r % 8 + r / 8) % 8, 0, 0), r + 1);
        }
    }

    static void fullNet(RoadStrokes x) {
        columns(x, 24);
    }

    /** Four by four meetings, 24 lanes: four strokes of three roads each across, then four upward. */
    static void grid(RoadStrokes x) {
        for (int m = 0; m < 16; m++) {
            mustBe(x.meeting(10 * (m % 4), 10 * (m / 4)), m + 1);
        }
        for (int r = 0; r < 24; r++) {
            int line = r % 12 / 3;
            int from = r < 12 ? 4 * line + r % 3 : line + 4 * (r % 3);
            mustBe(x.road(from, from + (r < 12 ? 1 : 4), 0, 0), r + 1);
        }
    }

    /** The corners of a ring that turns by just 45 degrees at each. */
    static int[] ringPlaces() {
        return xys(10, 0, 20, 0, 30, 10, 30, 20, 20, 30, 10, 30, 0, 20, 0, 10);
    }

    static int[][] ringRoads(int kind, int use) {
        int[][] roads = new int[8][];
        for (int i = 0; i < 8; i++) {
            roads[i] = road(i, (i + 1) % 8, kind, use);
        }
        return roads;
    }

    private static void mustBe(int got, int want) {
        if (got != want) {
            throw new IllegalStateException("a test's net can't be told: " + got + ", due is " + want);
        }
    }
}
