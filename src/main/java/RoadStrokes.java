/**
 * Roads for a smaller sheet: meetings, roads between them, the strokes that good continuation makes of
 * roads, and the sheets that keep the strokes worth most. The document's promises are named at each call.
 */
public final class RoadStrokes {
    public static final int NONE = -1, BAD = -2, NOT = -3, FULL = -4;

    private static final int MOST_MEETINGS = 16, MOST_ROADS = 24;
    private static final int MOST_PLACE = 30, MOST_USE = 9, MOST_LIMIT = 9999;
    private static final int LANE = 0, STREET = 1, HIGHWAY = 2;

    private static final int ROWS = 4, MOST_ITEMS = 60, ITEMS_OF_A_ROAD = 4;
    private static final int BYTES = 0, SHORTS = 1, INTS = 2;

    private static final int NULL = 1, INDEX = 2, CAST = 3, STORE = 4, SIZE = 5;
    private static final int FINDINGS_BASE = -10;
    private static final int LEAST_INT = 0x80000000;

    private static final int DIGEST_LIMIT = 40;

    private final Net net;
    private final Joins joins;
    private final Strokes strokes;
    private final Ways ways;
    private final Cutting cutting;
    private final Row[] rows;
    private int finding;

    /** Promise 1. */
    public RoadStrokes() {
        net = new Net();
        joins = new Joins(net);
        strokes = new Strokes(net, joins);
        ways = new Ways(net);
        cutting = new Cutting(strokes);
        rows = new Row[ROWS];
        for (int s = 0; s < ROWS; s++) {
            rows[s] = new Row();
        }
        finding = 0;
    }

    // ---- the net

    /** Promise 2. */
    public int meeting(int x, int y) {
        return net.addMeeting(x, y);
    }

    /** Promise 3. */
    public int road(int a, int b, int kind, int use) {
        int answer = net.addRoad(a, b, kind, use);
        if (answer >= 0) {
            settle();
        }
        return answer;
    }

    /** Promise 4. */
    public int undo() {
        int answer = net.removeLast();
        if (answer >= 0) {
            settle();
        }
        return answer;
    }

    /** Promise 5. */
    public int alter(int road, int what, int v) {
        if (!net.hasRoad(road)) {
            return BAD;
        }
        int before;
        if (what == 0 && isKind(v)) {
            before = net.kind[road];
            net.kind[road] = v;
        } else if (what == 1 && isUse(v)) {
            before = net.use[road];
            net.use[road] = v;
        } else {
            return BAD;
        }
        settle();
        return before;
    }

    /** Promise 6. */
    public int read(int s) {
        if (!isRow(s)) {
            return BAD;
        }
        Row row = rows[s];
        if (row.isLost()) {
            return found(NULL);
        }
        int[] items = row.items;
        int roads = 0;
        for (int i = 0; i + ITEMS_OF_A_ROAD <= row.size; i += ITEMS_OF_A_ROAD) {
            if (net.addRoad(items[i], items[i + 1], items[i + 2], items[i + 3]) < 0) {
                break;
            }
            roads++;
        }
        settle();
        return roads;
    }

    /** Promise 7. */
    public int at(int meeting, int what) {
        if (!net.hasMeeting(meeting)) {
            return BAD;
        }
        switch (what) {
            case 0: return net.x[meeting];
            case 1: return net.y[meeting];
            case 2: return net.roadsAt(meeting);
            default: return BAD;
        }
    }

    /** Promise 8. */
    public int info(int road, int what) {
        if (!net.hasRoad(road)) {
            return BAD;
        }
        switch (what) {
            case 0: return net.first[road];
            case 1: return net.second[road];
            case 2: return net.kind[road];
            case 3: return net.use[road];
            case 4: return net.length[road];
            case 5: return net.worthOf(road, net.use[road]);
            case 6: return strokes.ofRoad[road];
            default: return BAD;
        }
    }

    // ---- strokes

    /** Promise 9. */
    public int joined(int meeting, int road) {
        if (!net.hasMeeting(meeting) || !net.hasRoad(road)) {
            return BAD;
        }
        if (!net.isThere(road, meeting)) {
            return NOT;
        }
        return joins.partner(meeting, road);
    }

    /** Promise 10. */
    public int along(int meeting, int a, int b) {
        if (!net.hasMeeting(meeting) || !net.hasRoad(a) || !net.hasRoad(b)) {
            return BAD;
        }
        if (a == b || !net.isThere(a, meeting) || !net.isThere(b, meeting)) {
            return NOT;
        }
        return joins.areAlong(meeting, a, b) ? 1 : 0;
    }

    /** Promise 11. */
    public int stroke(int stroke, int what) {
        if (!strokes.has(stroke)) {
            return BAD;
        }
        switch (what) {
            case 0: return Integer.bitCount(strokes.roads[stroke]);
            case 1: return strokes.length[stroke];
            case 2: return strokes.worth[stroke];
            case 3: return strokes.isClosed(stroke) ? 1 : 0;
            case 4: return strokes.rankOf[stroke];
            case 5: return strokes.netOf[stroke];
            case 6: return strokes.roads[stroke];
            default: return BAD;
        }
    }

    /** Promise 12. */
    public int rank(int i, int what) {
        if (i < 0 || i >= MOST_ROADS || what < 0 || what > 1) {
            return BAD;
        }
        if (i >= strokes.count) {
            return NONE;
        }
        return what == 0 ? strokes.byRank[i] : strokes.worthUpTo[i];
    }

    // ---- sheets of the net

    /** Promise 13. */
    public int far(int n, int a, int b) {
        if (!isSheet(n) || !net.hasMeeting(a) || !net.hasMeeting(b)) {
            return BAD;
        }
        return ways.least(a, b, strokes.roadsOf(strokes.firstRanks(n)));
    }

    /** Promise 14. */
    public int cut(int n, int limit, int what) {
        if (!isSheet(n) || limit < 0 || limit > MOST_LIMIT || what < 0 || what > 3) {
            return BAD;
        }
        cutting.perform(strokes.firstRanks(n), limit);
        return cutting.answer(what);
    }

    /** Promise 15. */
    public int bridges(int n) {
        if (!isSheet(n)) {
            return BAD;
        }
        return ways.bridgesOf(strokes.roadsOf(strokes.firstRanks(n)));
    }

    /** Promise 16. */
    public int detour(int road) {
        if (!net.hasRoad(road)) {
            return BAD;
        }
        int others = net.allRoads() & ~(1 << road);
        int way = ways.least(net.first[road], net.second[road], others);
        return way == NONE ? NONE : way - net.length[road];
    }

    /** Promise 17. */
    public int useful(int what) {
        if (what < 0 || what > 1) {
            return BAD;
        }
        int which = NONE;
        int most = NONE;
        for (int road = 0; road < net.roads; road++) {
            int worth = firstWorthIfWide(road);
            if (worth > most) {
                which = road;
                most = worth;
            }
        }
        return what == 0 ? which : most;
    }

    // ---- rows

    /** Promise 18. */
    public int sheet(int s, int form, int n) {
        if (!isRow(s) || !isForm(form) || n > MOST_ITEMS) {
            return BAD;
        }
        if (n < 0) {
            return found(SIZE);
        }
        rows[s].begin(form, n);
        return n;
    }

    /** Promise 19. */
    public int lose(int s) {
        if (!isRow(s)) {
            return BAD;
        }
        Row row = rows[s];
        if (row.isLost()) {
            return found(NULL);
        }
        int size = row.size;
        row.end();
        return size;
    }

    /** Promise 20. */
    public int put(int s, int form, int i, int v) {
        if (!isRow(s) || !isForm(form)) {
            return BAD;
        }
        Row row = rows[s];
        int fault = row.faultOf(form, i);
        if (fault != 0) {
            return found(fault);
        }
        row.items[i] = row.trimmed(v);
        return 1;
    }

    /** Promise 21. */
    public int get(int s, int form, int i) {
        if (!isRow(s) || !isForm(form)) {
            return LEAST_INT;
        }
        Row row = rows[s];
        int fault = row.faultOf(form, i);
        if (fault != 0) {
            found(fault);
            return LEAST_INT;
        }
        return row.items[i];
    }

    /** Promise 22. */
    public int copy(int s, int i, int t, int j, int n) {
        if (!isRow(s) || !isRow(t)) {
            return BAD;
        }
        Row source = rows[s];
        Row target = rows[t];
        if (source.isLost() || target.isLost()) {
            return found(NULL);
        }
        if (source.form != target.form) {
            return found(STORE);
        }
        if (!source.hasItems(i, n) || !target.hasItems(j, n)) {
            return found(INDEX);
        }
        System.arraycopy(source.items, i, target.items, j, n);
        return 1;
    }

    /** Promise 23. */
    public int write(int s) {
        if (!isRow(s)) {
            return BAD;
        }
        Row row = rows[s];
        if (row.isLost()) {
            return found(NULL);
        }
        int written = Math.min(row.size, strokes.count);
        for (int i = 0; i < written; i++) {
            row.items[i] = strokes.byRank[i];
        }
        return written;
    }

    /** Promise 24. */
    public int count(int what) {
        switch (what) {
            case 0: return net.meetings;
            case 1: return net.roads;
            case 2: return strokes.count;
            case 3: return strokes.nets;
            case 4: return strokes.lengthOf(strokes.all());
            case 5: return strokes.howManyClosed();
            case 6: return strokes.worthOfAll();
            case 7: return joins.pairs;
            case 8: return finding;
            default: return BAD;
        }
    }

    /** Promise 25. */
    public long digest() {
        long h = 17;
        for (int what = 0; what <= 7; what++) {
            h = mixed(h, count(what));
        }
        for (int meeting = 0; meeting < net.meetings; meeting++) {
            for (int what = 0; what <= 2; what++) {
                h = mixed(h, at(meeting, what));
            }
        }
        for (int road = 0; road < net.roads; road++) {
            h = mixRoad(h, road);
        }
        for (int stroke = 0; stroke < strokes.count; stroke++) {
            h = mixStroke(h, stroke);
        }
        for (int n = 0; n <= strokes.count; n++) {
            h = mixSheet(h, n);
        }
        h = mixed(h, useful(0));
        return mixed(h, useful(1));
    }

    private long mixRoad(long before, int road) {
        long h = before;
        for (int what = 0; what <= 6; what++) {
            h = mixed(h, info(road, what));
        }
        h = mixed(h, joined(net.first[road], road));
        h = mixed(h, joined(net.second[road], road));
        return mixed(h, detour(road));
    }

    private long mixStroke(long before, int stroke) {
        long h = before;
        for (int what = 0; what <= 6; what++) {
            h = mixed(h, stroke(stroke, what));
        }
        h = mixed(h, rank(stroke, 0));
        return mixed(h, rank(stroke, 1));
    }

    private long mixSheet(long before, int n) {
        long h = mixed(before, bridges(n));
        cutting.perform(strokes.firstRanks(n), DIGEST_LIMIT);
        for (int what = 0; what <= 3; what++) {
            h = mixed(h, cutting.answer(what));
        }
        h = mixed(h, far(n, 0, 1));
        return mixed(h, far(n, 0, net.meetings - 1));
    }

    private static long mixed(long h, int value) {
        return 31 * h + value;
    }

    private void settle() {
        joins.settle();
        strokes.settle();
    }

    private int found(int number) {
        finding = number;
        return FINDINGS_BASE - number;
    }

    /** A use never tells which roads are joined, so the strokes stay as they are and only one gains. */
    private int firstWorthIfWide(int road) {
        int gain = net.worthOf(road, MOST_USE) - net.worthOf(road, net.use[road]);
        int changed = strokes.worth[strokes.ofRoad[road]] + gain;
        return Math.max(changed, strokes.worth[strokes.byRank[0]]);
    }

    private boolean isSheet(int n) {
        return n >= 0 && n <= strokes.count;
    }

    private static boolean isRow(int s) {
        return s >= 0 && s < ROWS;
    }

    private static boolean isForm(int form) {
        return form >= BYTES && form <= INTS;
    }

    private static boolean isPlace(int v) {
        return v >= 0 && v <= MOST_PLACE;
    }

    private static boolean isKind(int v) {
        return v >= LANE && v <= HIGHWAY;
    }

    private static boolean isUse(int v) {
        return v >= 0 && v <= MOST_USE;
    }

    private static boolean hasBit(int bits, int i) {
        return (bits >> i & 1) != 0;
    }

    /** Those of within that are reached from start by steps, near telling those one step away from each. */
    private static int reached(int start, int within, int[] near) {
        int seen = start & within;
        for (int round = 0; round < near.length; round++) {
            int grown = seen;
            for (int i = 0; i < near.length; i++) {
                if (hasBit(grown, i)) {
                    grown |= near[i] & within;
                }
            }
            if (grown == seen) {
                break;
            }
            seen = grown;
        }
        return seen;
    }

    /** What was told, and in which order. */
    private static final class Net {
        final int[] x = new int[MOST_MEETINGS];
        final int[] y = new int[MOST_MEETINGS];
        final int[] first = new int[MOST_ROADS];
        final int[] second = new int[MOST_ROADS];
        final int[] kind = new int[MOST_ROADS];
        final int[] use = new int[MOST_ROADS];
        final int[] length = new int[MOST_ROADS];
        int meetings = 0;
        int roads = 0;
        private final boolean[] wasRoad = new boolean[MOST_MEETINGS + MOST_ROADS];

        int addMeeting(int placeX, int placeY) {
            if (!isPlace(placeX) || !isPlace(placeY)) {
                return BAD;
            }
            if (isTaken(placeX, placeY)) {
                return NOT;
            }
            if (meetings >= MOST_MEETINGS) {
                return FULL;
            }
            wasRoad[meetings + roads] = false;
            x[meetings] = placeX;
            y[meetings] = placeY;
            meetings++;
            return meetings;
        }

        int addRoad(int a, int b, int itsKind, int itsUse) {
            if (!hasMeeting(a) || !hasMeeting(b) || a == b || !isKind(itsKind) || !isUse(itsUse)) {
                return BAD;
            }
            if (isLinked(a, b)) {
                return NOT;
            }
            if (roads >= MOST_ROADS) {
                return FULL;
            }
            wasRoad[meetings + roads] = true;
            first[roads] = a;
            second[roads] = b;
            kind[roads] = itsKind;
            use[roads] = itsUse;
            length[roads] = Math.abs(x[a] - x[b]) + Math.abs(y[a] - y[b]);
            roads++;
            return roads;
        }

        /** A meeting that was added last has no road, since each road came after both of its meetings. */
        int removeLast() {
            int last = meetings + roads - 1;
            if (last < 0) {
                return NOT;
            }
            if (wasRoad[last]) {
                roads--;
            } else {
                meetings--;
            }
            return last;
        }

        boolean hasMeeting(int meeting) {
            return meeting >= 0 && meeting < meetings;
        }

        boolean hasRoad(int road) {
            return road >= 0 && road < roads;
        }

        boolean isThere(int road, int meeting) {
            return first[road] == meeting || second[road] == meeting;
        }

        /** By how much x changes from a meeting to the other one of a road. */
        int stepX(int road, int meeting) {
            return first[road] == meeting ? x[second[road]] - x[meeting] : x[first[road]] - x[meeting];
        }

        int stepY(int road, int meeting) {
            return first[road] == meeting ? y[second[road]] - y[meeting] : y[first[road]] - y[meeting];
        }

        int roadsAt(int meeting) {
            int there = 0;
            for (int road = 0; road < roads; road++) {
                if (isThere(road, meeting)) {
                    there++;
                }
            }
            return there;
        }

        int allRoads() {
            return (1 << roads) - 1;
        }

        int worthOf(int road, int itsUse) {
            int times;
            switch (kind[road]) {
                case LANE: times = itsUse + 1; break;
                case STREET: times = 2 * (itsUse + 1); break;
                default: times = itsUse + 12; break;
            }
            return length[road] * times;
        }

        private boolean isTaken(int placeX, int placeY) {
            for (int meeting = 0; meeting < meetings; meeting++) {
                if (x[meeting] == placeX && y[meeting] == placeY) {
                    return true;
                }
            }
            return false;
        }

        private boolean isLinked(int a, int b) {
            for (int road = 0; road < roads; road++) {
                if (isThere(road, a) && isThere(road, b)) {
                    return true;
                }
            }
            return false;
        }
    }

    /** Which roads go on into one another. */
    private static final class Joins {
        int pairs = 0;
        private final Net net;
        private final int[] atFirst = new int[MOST_ROADS];
        private final int[] atSecond = new int[MOST_ROADS];

        /** The roads of the meeting in hand that are not joined there yet, in their order, and their steps. */
        private final int[] free = new int[MOST_ROADS];
        private final int[] stepX = new int[MOST_ROADS];
        private final int[] stepY = new int[MOST_ROADS];
        private int freeCount = 0;

        /** The straightest pair of these so far, as indexes into free, with its fraction. */
        private int bestI = NONE;
        private int bestJ = NONE;
        private long bestOver = 0;
        private long bestUnder = 1;

        Joins(Net net) {
            this.net = net;
        }

        void settle() {
            pairs = 0;
            for (int road = 0; road < net.roads; road++) {
                atFirst[road] = NONE;
                atSecond[road] = NONE;
            }
            for (int meeting = 0; meeting < net.meetings; meeting++) {
                joinAt(meeting);
            }
        }

        /** The road must be at the meeting. */
        int partner(int meeting, int road) {
            return net.first[road] == meeting ? atFirst[road] : atSecond[road];
        }

        boolean isOpenAtFirst(int road) {
            return atFirst[road] == NONE;
        }

        boolean isOpenAtSecond(int road) {
            return atSecond[road] == NONE;
        }

        /** The roads to which a road is joined, as bits. */
        int partnersOf(int road) {
            int bits = isOpenAtFirst(road) ? 0 : 1 << atFirst[road];
            return isOpenAtSecond(road) ? bits : bits | 1 << atSecond[road];
        }

        boolean areAlong(int meeting, int a, int b) {
            int ax = net.stepX(a, meeting);
            int ay = net.stepY(a, meeting);
            int bx = net.stepX(b, meeting);
            int by = net.stepY(b, meeting);
            long own = product(ax, ay, ax, ay) * product(bx, by, bx, by);
            return isWide(product(ax, ay, bx, by), own);
        }

        private void joinAt(int meeting) {
            gatherFree(meeting);
            for (int round = 0; round < MOST_ROADS; round++) {
                findStraightest();
                if (bestI == NONE) {
                    break;
                }
                setPartner(meeting, free[bestI], free[bestJ]);
                setPartner(meeting, free[bestJ], free[bestI]);
                pairs++;
                dropBest();
            }
        }

        private void gatherFree(int meeting) {
            freeCount = 0;
            for (int road = 0; road < net.roads; road++) {
                if (net.isThere(road, meeting)) {
                    free[freeCount] = road;
                    stepX[freeCount] = net.stepX(road, meeting);
                    stepY[freeCount] = net.stepY(road, meeting);
                    freeCount++;
                }
            }
        }

        /** The free roads stand in their order, so of like pairs the first one seen is the one that is due. */
        private void findStraightest() {
            bestI = NONE;
            bestJ = NONE;
            for (int i = 0; i < freeCount; i++) {
                for (int j = i + 1; j < freeCount; j++) {
                    if (mayJoin(free[i], free[j])) {
                        consider(i, j);
                    }
                }
            }
        }

        private boolean mayJoin(int a, int b) {
            int kindA = net.kind[a];
            int kindB = net.kind[b];
            return !(kindA == HIGHWAY && kindB == LANE || kindA == LANE && kindB == HIGHWAY);
        }

        /** The fractions are compared crosswise, in longs, since the products pass what an int holds. */
        private void consider(int i, int j) {
            long p = product(stepX[i], stepY[i], stepX[j], stepY[j]);
            long under = product(stepX[i], stepY[i], stepX[i], stepY[i])
                * product(stepX[j], stepY[j], stepX[j], stepY[j]);
            long over = p * p;
            if (isWide(p, under) && (bestI == NONE || over * bestUnder > bestOver * under)) {
                bestI = i;
                bestJ = j;
                bestOver = over;
                bestUnder = under;
            }
        }

        private void setPartner(int meeting, int road, int partner) {
            if (net.first[road] == meeting) {
                atFirst[road] = partner;
            } else {
                atSecond[road] = partner;
            }
        }

        private void dropBest() {
            int kept = 0;
            for (int i = 0; i < freeCount; i++) {
                if (i != bestI && i != bestJ) {
                    free[kept] = free[i];
                    stepX[kept] = stepX[i];
                    stepY[kept] = stepY[i];
                    kept++;
                }
            }
            freeCount = kept;
        }

        /** Whether the angle is 135 degrees at least, by the product and the two own products multiplied. */
        private static boolean isWide(long p, long own) {
            return p < 0 && 2 * p * p >= own;
        }

        private static long product(int ux, int uy, int vx, int vy) {
            return ux * vx + uy * vy;
        }
    }

    /** The strokes with what follows for each, and their ranks; sets of roads, meetings, strokes are bits. */
    private static final class Strokes {
        final int[] ofRoad = new int[MOST_ROADS];
        final int[] roads = new int[MOST_ROADS];
        final int[] length = new int[MOST_ROADS];
        final int[] worth = new int[MOST_ROADS];
        final int[] meetings = new int[MOST_ROADS];
        final int[] ends = new int[MOST_ROADS];
        final int[] touched = new int[MOST_ROADS];
        final int[] byRank = new int[MOST_ROADS];
        final int[] rankOf = new int[MOST_ROADS];
        final int[] netOf = new int[MOST_ROADS];
        final int[] worthUpTo = new int[MOST_ROADS];
        int count = 0;
        int nets = 0;
        private final Net net;
        private final Joins joins;
        private final int[] partners = new int[MOST_ROADS];

        Strokes(Net net, Joins joins) {
            this.net = net;
            this.joins = joins;
        }

        void settle() {
            gatherRoads();
            for (int stroke = 0; stroke < count; stroke++) {
                measure(stroke);
            }
            for (int stroke = 0; stroke < count; stroke++) {
                touched[stroke] = touching(stroke);
            }
            giveRanks();
        }

        boolean has(int stroke) {
            return stroke >= 0 && stroke < count;
        }

        boolean isClosed(int stroke) {
            return ends[stroke] == 0;
        }

        int all() {
            return (1 << count) - 1;
        }

        int firstRanks(int n) {
            int bits = 0;
            for (int i = 0; i < n && i < count; i++) {
                bits |= 1 << byRank[i];
            }
            return bits;
        }

        int roadsOf(int some) {
            int bits = 0;
            for (int stroke = 0; stroke < count; stroke++) {
                if (hasBit(some, stroke)) {
                    bits |= roads[stroke];
                }
            }
            return bits;
        }

        int meetingsOf(int some) {
            int bits = 0;
            for (int stroke = 0; stroke < count; stroke++) {
                if (hasBit(some, stroke)) {
                    bits |= meetings[stroke];
                }
            }
            return bits;
        }

        int lengthOf(int some) {
            int sum = 0;
            for (int stroke = 0; stroke < count; stroke++) {
                if (hasBit(some, stroke)) {
                    sum += length[stroke];
                }
            }
            return sum;
        }

        int worthOfAll() {
            return count == 0 ? 0 : worthUpTo[count - 1];
        }

        int howManyClosed() {
            int closed = 0;
            for (int stroke = 0; stroke < count; stroke++) {
                if (isClosed(stroke)) {
                    closed++;
                }
            }
            return closed;
        }

        int ofNet(int number) {
            int bits = 0;
            for (int stroke = 0; stroke < count; stroke++) {
                if (netOf[stroke] == number) {
                    bits |= 1 << stroke;
                }
            }
            return bits;
        }

        private void gatherRoads() {
            for (int road = 0; road < MOST_ROADS; road++) {
                partners[road] = road < net.roads ? joins.partnersOf(road) : 0;
            }
            count = 0;
            int taken = 0;
            for (int road = 0; road < net.roads; road++) {
                if (!hasBit(taken, road)) {
                    roads[count] = reached(1 << road, net.allRoads(), partners);
                    taken |= roads[count];
                    count++;
                }
            }
        }

        private void measure(int stroke) {
            length[stroke] = 0;
            worth[stroke] = 0;
            meetings[stroke] = 0;
            ends[stroke] = 0;
            for (int road = 0; road < net.roads; road++) {
                if (hasBit(roads[stroke], road)) {
                    ofRoad[road] = stroke;
                    measureRoad(stroke, road);
                }
            }
        }

        private void measureRoad(int stroke, int road) {
            int a = 1 << net.first[road];
            int b = 1 << net.second[road];
            length[stroke] += net.length[road];
            worth[stroke] += net.worthOf(road, net.use[road]);
            meetings[stroke] |= a | b;
            if (joins.isOpenAtFirst(road)) {
                ends[stroke] |= a;
            }
            if (joins.isOpenAtSecond(road)) {
                ends[stroke] |= b;
            }
        }

        private int touching(int stroke) {
            int bits = 0;
            for (int other = 0; other < count; other++) {
                if ((meetings[stroke] & meetings[other]) != 0) {
                    bits |= 1 << other;
                }
            }
            return bits;
        }

        private void giveRanks() {
            nets = 0;
            int open = all();
            int near = 0;
            int sum = 0;
            for (int i = 0; i < count; i++) {
                int next = worthiest(near & open);
                if (next == NONE) {
                    nets++;
                    next = worthiest(open);
                }
                if (next == NONE) {
                    break;
                }
                sum += worth[next];
                byRank[i] = next;
                rankOf[next] = i;
                netOf[next] = nets - 1;
                worthUpTo[i] = sum;
                open &= ~(1 << next);
                near |= touched[next];
            }
        }

        private int worthiest(int some) {
            int best = NONE;
            for (int stroke = 0; stroke < count; stroke++) {
                if (hasBit(some, stroke) && (best == NONE || worth[stroke] > worth[best])) {
                    best = stroke;
                }
            }
            return best;
        }
    }

    /** Ways by some of the roads, these as bits. */
    private static final class Ways {
        private static final int NO_WAY = 1000000;
        private final Net net;
        private final int[] distance = new int[MOST_MEETINGS];
        private final int[] near = new int[MOST_MEETINGS];

        Ways(Net net) {
            this.net = net;
        }

        int least(int from, int to, int roads) {
            for (int meeting = 0; meeting < MOST_MEETINGS; meeting++) {
                distance[meeting] = NO_WAY;
            }
            distance[from] = 0;
            for (int round = 0; round < MOST_MEETINGS; round++) {
                if (!shorten(roads)) {
                    break;
                }
            }
            return distance[to] == NO_WAY ? NONE : distance[to];
        }

        int bridgesOf(int roads) {
            gatherNear(roads);
            int bits = 0;
            for (int road = 0; road < net.roads; road++) {
                if (hasBit(roads, road) && isBridge(road)) {
                    bits |= 1 << road;
                }
            }
            return bits;
        }

        private boolean shorten(int roads) {
            boolean shorter = false;
            for (int road = 0; road < net.roads; road++) {
                if (hasBit(roads, road)) {
                    int a = net.first[road];
                    int b = net.second[road];
                    int length = net.length[road];
                    if (distance[a] + length < distance[b]) {
                        distance[b] = distance[a] + length;
                        shorter = true;
                    } else if (distance[b] + length < distance[a]) {
                        distance[a] = distance[b] + length;
                        shorter = true;
                    }
                }
            }
            return shorter;
        }

        private void gatherNear(int roads) {
            for (int meeting = 0; meeting < MOST_MEETINGS; meeting++) {
                near[meeting] = 0;
            }
            for (int road = 0; road < net.roads; road++) {
                if (hasBit(roads, road)) {
                    flip(road);
                }
            }
        }

        /** No two roads are between the same meetings, so one bit at each end stands for one road. */
        private void flip(int road) {
            int a = net.first[road];
            int b = net.second[road];
            near[a] ^= 1 << b;
            near[b] ^= 1 << a;
        }

        private boolean isBridge(int road) {
            flip(road);
            int still = reached(1 << net.first[road], (1 << MOST_MEETINGS) - 1, near);
            flip(road);
            return !hasBit(still, net.second[road]);
        }
    }

    /** Dead ends taken from a sheet, these and the sheet as bits. */
    private static final class Cutting {
        private final Strokes strokes;
        private int left = 0;
        private int gone = 0;
        private int firstGone = NONE;

        Cutting(Strokes strokes) {
            this.strokes = strokes;
        }

        void perform(int sheet, int limit) {
            left = sheet;
            gone = 0;
            firstGone = NONE;
            for (int round = 0; round < MOST_ROADS; round++) {
                int next = leastDeadEnd(limit);
                if (next == NONE) {
                    break;
                }
                if (gone == 0) {
                    firstGone = next;
                }
                gone++;
                left &= ~(1 << next);
            }
        }

        int answer(int what) {
            switch (what) {
                case 0: return gone;
                case 1: return left;
                case 2: return strokes.lengthOf(left);
                default: return firstGone;
            }
        }

        /** From the greatest number down, so that of like ones the greatest is found. */
        private int leastDeadEnd(int limit) {
            int best = NONE;
            int bound = limit;
            for (int stroke = strokes.count - 1; stroke >= 0; stroke--) {
                if (hasBit(left, stroke) && strokes.worth[stroke] < bound && mayGo(stroke)) {
                    best = stroke;
                    bound = strokes.worth[stroke];
                }
            }
            return best;
        }

        private boolean mayGo(int stroke) {
            int others = left & ~(1 << stroke);
            if ((strokes.ends[stroke] & ~strokes.meetingsOf(others)) == 0) {
                return false;
            }
            int rest = others & strokes.ofNet(strokes.netOf[stroke]);
            return rest != 0 && reached(rest & -rest, rest, strokes.touched) == rest;
        }
    }

    /** Items are held as ints whatever the form; what is put is trimmed to the form's bits. */
    private static final class Row {
        private static final int LOST = -1;
        final int[] items = new int[MOST_ITEMS];
        int form = LOST;
        int size = 0;

        void begin(int newForm, int newSize) {
            form = newForm;
            size = newSize;
            for (int i = 0; i < MOST_ITEMS; i++) {
                items[i] = 0;
            }
        }

        void end() {
            form = LOST;
            size = 0;
        }

        boolean isLost() {
            return form == LOST;
        }

        boolean hasItems(int from, int n) {
            return from >= 0 && n >= 0 && from <= size - n;
        }

        /** The finding of a use of item i as of a form, 0 if there is none. */
        int faultOf(int asForm, int i) {
            if (isLost()) {
                return NULL;
            }
            if (asForm != form) {
                return CAST;
            }
            return i < 0 || i >= size ? INDEX : 0;
        }

        int trimmed(int v) {
            switch (form) {
                case BYTES: return (byte) v;
                case SHORTS: return (short) v;
                default: return v;
            }
        }
    }
}
