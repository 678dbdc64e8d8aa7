import java.util.Arrays;

/**
 * The edges that the document names in 'What it is', in 'Terms' of ROADS, and in promises 1 to 8: a test for each
 * sentence, which is told above it. E.refused and E.found ask too that the call changes nothing.
 */
public final class EdgesOfNetTest extends Edges {
    private static final Edges E = new Edges();

    public static void main(String[] args) {
        sixteenMeetingsAtMost();
        meetingsAreZeroOn();
        placesAreZeroToThirty();
        noTwoAtOnePlace();
        usedForFiveHundredAndTwelveCalls();
        twentyFourRoadsAtMost();
        roadsAreZeroOn();
        betweenTwoUnlikeMeetings();
        noTwoBetweenTheSame();
        kindsAreZeroToTwo();
        usesAreZeroToNine();
        lengthInXAndInYTogether();
        worthOfEachKind();
        newObjectHasNone();
        newRowsAreLost();
        objectsAreApart();
        meetingAnswersHowMany();
        meetingBadThenNotThenFull();
        roadAnswersHowMany();
        roadBadThenNotThenFull();
        undoLeavesHowMany();
        undoNotIfThereIsNone();
        undoTakesTheLastOfBoth();
        undoneNumbersAreNoMore();
        alterEdges();
        alterAnswersWhatItWas();
        readBadThenNull();
        readAsManyAsAreWhole();
        readAsLongAsEachMayBe();
        readOfFifteenRoads();
        readOfEachForm();
        readUntilFull();
        atEdges();
        atOfNoneAndOfMostRoads();
        infoEdges();
        infoAsTold();
        E.end();
    }

    private static Told corner() {
        return net(xys(0, 0, 10, 0, 10, 10), road(0, 1, 1, 4));
    }

    // 'MEETINGS, 16 at most'
    private static void sixteenMeetingsAtMost() {
        RoadStrokes x = new RoadStrokes();
        for (int i = 0; i < 16; i++) {
            E.due("meeting " + i, x.meeting(i, 30 - i), i + 1);
        }
        E.refused("a seventeenth", Edges::sixteenMeetings, y -> y.meeting(15, 15), FULL);
        E.refused("a seventeenth beside roads", Edges::fullNet, y -> y.meeting(15, 15), FULL);
        E.answers("a sixteenth again", with(Edges::sixteenMeetings, RoadStrokes::undo), y -> y.meeting(15, 15), 16);
    }

    // 'are 0 on'
    private static void meetingsAreZeroOn() {
        E.answers("number 0", net(xys(3, 4, 5, 6)), x -> x.at(0, 0), 3);
        E.answers("number 1", net(xys(3, 4, 5, 6)), x -> x.at(1, 0), 5);
        E.refused("number 2 of two", net(xys(3, 4, 5, 6)), x -> x.at(2, 0), BAD);
        E.answers("number 15 of sixteen", Edges::sixteenMeetings, x -> x.at(15, 1), 28);
        E.refused("number 16 of sixteen", Edges::sixteenMeetings, x -> x.at(16, 1), BAD);
        E.answers("a road to number 15", Edges::sixteenMeetings, x -> x.road(15, 0, 0, 0), 1);
        E.refused("a road to number 16", Edges::sixteenMeetings, x -> x.road(16, 0, 0, 0), BAD);
    }

    // 'each at a PLACE: x, y (0 to 30)'
    private static void placesAreZeroToThirty() {
        E.answers("x is 0", Edges::nothing, x -> x.meeting(0, 15), 1);
        E.answers("x is 30", Edges::nothing, x -> x.meeting(30, 15), 1);
        E.answers("y is 0", Edges::nothing, x -> x.meeting(15, 0), 1);
        E.answers("y is 30", Edges::nothing, x -> x.meeting(15, 30), 1);
        for (int v : new int[] {-1, 31, MIN, MAX, -30, 32}) {
            E.refused("x is " + v, Edges::nothing, x -> x.meeting(v, 15), BAD);
            E.refused("y is " + v, Edges::nothing, x -> x.meeting(15, v), BAD);
            E.refused("x is " + v + " beside others", corner(), x -> x.meeting(v, 15), BAD);
            E.refused("y is " + v + " beside others", corner(), x -> x.meeting(15, v), BAD);
        }
    }

    // 'no two at one'
    private static void noTwoAtOnePlace() {
        Told three = net(xys(0, 0, 7, 9, 30, 30));
        E.refused("at the first one's", three, x -> x.meeting(0, 0), NOT);
        E.refused("at one between's", three, x -> x.meeting(7, 9), NOT);
        E.refused("at the last one's", three, x -> x.meeting(30, 30), NOT);
        E.answers("x alone is like", three, x -> x.meeting(7, 8), 4);
        E.answers("y alone is like", three, x -> x.meeting(8, 9), 4);
        E.answers("x is like y", three, x -> x.meeting(9, 7), 4);
        E.answers("free when undone", with(three, RoadStrokes::undo), x -> x.meeting(30, 30), 3);
    }

    // 'An object is used for at most 512 calls after it has been made'
    private static void usedForFiveHundredAndTwelveCalls() {
        RoadStrokes x = made(Edges::fullNet);
        long digest = x.digest();
        for (int call = 42; call <= 509; call++) {
            E.due("call " + call, call % 2 == 0 ? x.undo() : x.road(7, 9, 0, 0), call % 2 == 0 ? 39 : 24);
        }
        E.due("call 510", x.count(1), 24);
        E.due("call 511", x.digest(), digest);
        E.due("call 512", x.undo(), 39);
    }

    // 'ROADS, 24 at most'
    private static void twentyFourRoadsAtMost() {
        RoadStrokes x = made(y -> columns(y, 23));
        E.due("the twenty-fourth", x.road(0, 15, 2, 9), 24);
        E.refused("a twenty-fifth", Edges::fullNet, y -> y.road(0, 15, 2, 9), FULL);
        E.answers("a twenty-fourth again", with(Edges::fullNet, RoadStrokes::undo), y -> y.road(0, 15, 2, 9), 24);
    }

    // 'are 0 on'
    private static void roadsAreZeroOn() {
        E.answers("number 0", corner(), x -> x.info(0, 3), 4);
        E.refused("number 1 of one", corner(), x -> x.info(1, 3), BAD);
        E.answers("number 23 of 24", Edges::fullNet, x -> x.info(23, 1), 9);
        E.refused("number 24 of 24", Edges::fullNet, x -> x.info(24, 1), BAD);
        E.answers("alter number 23", Edges::fullNet, x -> x.alter(23, 1, 9), 0);
        E.refused("alter number 24", Edges::fullNet, x -> x.alter(24, 1, 9), BAD);
    }

    // 'each between two unlike MEETINGS'
    private static void betweenTwoUnlikeMeetings() {
        for (int m = 0; m < 3; m++) {
            int one = m;
            E.refused("from " + m + " to itself", corner(), x -> x.road(one, one, 0, 0), BAD);
        }
        E.refused("to itself, though all are full", Edges::fullNet, x -> x.road(15, 15, 0, 0), BAD);
    }

    // 'no two between the same'
    private static void noTwoBetweenTheSame() {
        E.refused("once more", corner(), x -> x.road(0, 1, 1, 4), NOT);
        E.refused("of another kind and use", corner(), x -> x.road(0, 1, 2, 0), NOT);
        E.refused("the other way round", corner(), x -> x.road(1, 0, 1, 4), NOT);
        E.refused("as the last of 23", x -> columns(x, 23), x -> x.road(8, 6, 0, 0), NOT);
        E.answers("one end alone is like", corner(), x -> x.road(1, 2, 1, 4), 2);
        E.answers("the other end alone is like", corner(), x -> x.road(2, 0, 1, 4), 2);
        E.answers("free when undone", with(corner(), RoadStrokes::undo), x -> x.road(1, 0, 0, 0), 1);
    }

    // '0 LANE, 1 STREET, 2 HIGHWAY'
    private static void kindsAreZeroToTwo() {
        for (int v = 0; v <= 2; v++) {
            int kind = v;
            E.answers("kind " + v, corner(), x -> x.road(1, 2, kind, 0), 2);
            E.answers("altered to kind " + v, corner(), x -> x.alter(0, 0, kind), 1);
        }
        for (int v : new int[] {-1, 3, MIN, MAX, 9}) {
            E.refused("kind " + v, corner(), x -> x.road(1, 2, v, 0), BAD);
            E.refused("altered to kind " + v, corner(), x -> x.alter(0, 0, v), BAD);
            E.refused("read kind " + v, with(corner(), row(0, 2, 1, 2, v, 0)), x -> x.read(0), 0);
        }
    }

    // 'a USE (0 to 9)'
    private static void usesAreZeroToNine() {
        for (int v = 0; v <= 9; v++) {
            int use = v;
            E.answers("use " + v, corner(), x -> x.road(1, 2, 0, use), 2);
            E.answers("altered to use " + v, corner(), x -> x.alter(0, 1, use), 4);
        }
        for (int v : new int[] {-1, 10, MIN, MAX}) {
            E.refused("use " + v, corner(), x -> x.road(1, 2, 0, v), BAD);
            E.refused("altered to use " + v, corner(), x -> x.alter(0, 1, v), BAD);
            E.refused("read use " + v, with(corner(), row(0, 2, 1, 2, 0, v)), x -> x.read(0), 0);
        }
    }

    // 'LENGTH of a ROAD is how far its MEETINGS are apart in x and in y together'
    private static void lengthInXAndInYTogether() {
        int[][] cases = {{5, 5, 6, 5, 1}, {5, 5, 5, 4, 1}, {0, 0, 30, 30, 60}, {30, 0, 0, 30, 60}, {0, 30, 30, 0, 60},
            {30, 30, 0, 0, 60}, {0, 7, 30, 7, 30}, {7, 30, 7, 0, 30}, {3, 9, 8, 2, 12}};
        for (int[] c : cases) {
            Told one = net(xys(c[0], c[1], c[2], c[3]), road(0, 1, 0, 0));
            E.answers("length", one, x -> x.info(0, 4), c[4]);
            E.answers("length of the stroke", one, x -> x.stroke(0, 1), c[4]);
            E.answers("length of all", one, x -> x.count(4), c[4]);
        }
    }

    // 'of a LANE its USE and 1, of a STREET twice that, of a HIGHWAY its USE and 12'
    private static void worthOfEachKind() {
        int[][] times = {{1, 10}, {2, 20}, {12, 21}};
        for (int kind = 0; kind <= 2; kind++) {
            Told least = net(xys(0, 0, 30, 30), road(0, 1, kind, 0));
            Told most = net(xys(0, 0, 30, 30), road(0, 1, kind, 9));
            E.answers("worth, not used, kind " + kind, least, x -> x.info(0, 5), 60 * times[kind][0]);
            E.answers("worth, most used, kind " + kind, most, x -> x.info(0, 5), 60 * times[kind][1]);
            E.answers("worth of the stroke", most, x -> x.stroke(0, 2), 60 * times[kind][1]);
            E.answers("worth of all", most, x -> x.count(6), 60 * times[kind][1]);
        }
    }

    // Promise 1: 'No MEETINGS, no ROADS'
    private static void newObjectHasNone() {
        for (int what = 0; what <= 8; what++) {
            int w = what;
            E.answers("count(" + what + ")", Edges::nothing, x -> x.count(w), 0);
        }
        E.refused("no meeting", Edges::nothing, x -> x.at(0, 0), BAD);
        E.refused("no meeting to begin at", Edges::nothing, x -> x.road(0, 1, 0, 0), BAD);
        E.refused("no road", Edges::nothing, x -> x.info(0, 0), BAD);
        E.refused("no road to alter", Edges::nothing, x -> x.alter(0, 0, 0), BAD);
        E.refused("no road at no meeting", Edges::nothing, x -> x.joined(0, 0), BAD);
        E.refused("no roads at no meeting", Edges::nothing, x -> x.along(0, 0, 1), BAD);
        E.refused("no stroke", Edges::nothing, x -> x.stroke(0, 0), BAD);
        E.refused("no road to do without", Edges::nothing, x -> x.detour(0), BAD);
        E.refused("no meetings apart", Edges::nothing, x -> x.far(0, 0, 0), BAD);
        E.answers("no rank", Edges::nothing, x -> x.rank(0, 0), NONE);
        E.answers("no worth of a rank", Edges::nothing, x -> x.rank(0, 1), NONE);
        E.answers("no bridges", Edges::nothing, x -> x.bridges(0), 0);
        E.answers("nothing useful", Edges::nothing, x -> x.useful(0), NONE);
    }

    // Promise 1: 'all rows are LOST'
    private static void newRowsAreLost() {
        for (int row = 0; row <= 3; row++) {
            int s = row;
            E.found("lose(" + s + ")", Edges::nothing, x -> x.lose(s), NULL);
            E.found("read(" + s + ")", Edges::nothing, x -> x.read(s), NULL);
            E.found("write(" + s + ")", Edges::nothing, x -> x.write(s), NULL);
            E.found("put(" + s + ")", Edges::nothing, x -> x.put(s, 0, 0, 0), NULL);
            E.found("get(" + s + ")", Edges::nothing, x -> x.get(s, 0, 0), NULL, MIN);
            E.found("copy(" + s + ")", Edges::nothing, x -> x.copy(s, 0, s, 0, 0), NULL);
        }
    }

    // Promise 1: what one object is told, another one is not
    private static void objectsAreApart() {
        RoadStrokes told = made(with(Edges::fullNet, row(0, 0, 7)));
        RoadStrokes fresh = new RoadStrokes();
        told.lose(1);
        E.due("no meetings", fresh.count(0), 0);
        E.due("no roads", fresh.count(1), 0);
        E.due("no FINDING", fresh.count(8), 0);
        E.due("a LOST row", fresh.lose(0), -11);
        E.due("the other one stays", told.count(1), 24);
    }

    // Promise 2: 'A MEETING more: how many'
    private static void meetingAnswersHowMany() {
        E.answers("the first", Edges::nothing, x -> x.meeting(9, 9), 1);
        E.answers("how many meetings, not roads", corner(), x -> x.meeting(9, 9), 4);
        E.answers("no stroke more", with(corner(), x -> x.meeting(5, 0)), x -> x.count(2), 1);
    }

    // Promise 2: 'BAD; NOT: there is one at that PLACE; FULL'
    private static void meetingBadThenNotThenFull() {
        E.refused("BAD ahead of FULL", Edges::sixteenMeetings, x -> x.meeting(31, 0), BAD);
        E.refused("BAD ahead of FULL", Edges::sixteenMeetings, x -> x.meeting(0, -1), BAD);
        E.refused("NOT ahead of FULL", Edges::sixteenMeetings, x -> x.meeting(0, 0), NOT);
        E.refused("NOT ahead of FULL, the last", Edges::sixteenMeetings, x -> x.meeting(30, 28), NOT);
    }

    // Promise 3: 'A ROAD more: how many'
    private static void roadAnswersHowMany() {
        E.answers("the first", Edges::sixteenMeetings, x -> x.road(15, 14, 0, 0), 1);
        E.answers("how many roads, not strokes", net(xys(0, 0, 10, 0, 20, 0), road(0, 1, 0, 0)),
            x -> x.road(1, 2, 0, 0), 2);
    }

    // Promise 3: 'BAD; NOT: there is one between these; FULL'
    private static void roadBadThenNotThenFull() {
        for (int v : new int[] {-1, 3, MIN, MAX}) {
            E.refused("BAD: from " + v, corner(), x -> x.road(v, 2, 0, 0), BAD);
            E.refused("BAD: to " + v, corner(), x -> x.road(2, v, 0, 0), BAD);
        }
        E.refused("BAD: both are none", corner(), x -> x.road(7, 7, 0, 0), BAD);
        E.refused("BAD ahead of NOT: kind", corner(), x -> x.road(0, 1, 3, 0), BAD);
        E.refused("BAD ahead of NOT: kind", corner(), x -> x.road(0, 1, -1, 0), BAD);
        E.refused("BAD ahead of NOT: use", corner(), x -> x.road(1, 0, 0, 10), BAD);
        E.refused("BAD ahead of NOT: use", corner(), x -> x.road(1, 0, 0, -1), BAD);
        E.refused("BAD ahead of FULL: from", Edges::fullNet, x -> x.road(16, 0, 0, 0), BAD);
        E.refused("BAD ahead of FULL: to", Edges::fullNet, x -> x.road(0, -1, 0, 0), BAD);
        E.refused("BAD ahead of FULL: kind", Edges::fullNet, x -> x.road(0, 1, 3, 0), BAD);
        E.refused("BAD ahead of FULL: use", Edges::fullNet, x -> x.road(0, 1, 0, 10), BAD);
        E.refused("NOT ahead of FULL: the first", Edges::fullNet, x -> x.road(8, 0, 0, 0), NOT);
        E.refused("NOT ahead of FULL: the last", Edges::fullNet, x -> x.road(7, 9, 0, 0), NOT);
    }

    // Promise 4: 'how many are left of both together'
    private static void undoLeavesHowMany() {
        RoadStrokes x = made(Edges::fullNet);
        for (int left = 39; left >= 0; left--) {
            E.due("left", x.undo(), left);
            E.due("meetings left", x.count(0), Math.min(left, 16));
            E.due("roads left", x.count(1), Math.max(left - 16, 0));
        }
        E.due("none is left", x.undo(), NOT);
    }

    // Promise 4: 'NOT: there is none'
    private static void undoNotIfThereIsNone() {
        E.refused("of a new object", Edges::nothing, RoadStrokes::undo, NOT);
        E.answers("of one", net(xys(1, 1)), RoadStrokes::undo, 0);
        E.refused("when all is undone", with(net(xys(1, 1)), RoadStrokes::undo),
            RoadStrokes::undo, NOT);
        E.refused("rows are no part of it", row(0, 0, 1), RoadStrokes::undo, NOT);
        E.refused("what was refused is none", x -> x.meeting(31, 0), RoadStrokes::undo, NOT);
    }

    // Promise 4: 'The last that was added, MEETING or ROAD, is undone'
    private static void undoTakesTheLastOfBoth() {
        Told mixed = x -> {
            corner().to(x);
            x.meeting(20, 20);
            x.road(3, 0, 2, 2);
            x.meeting(25, 20);
        };
        E.answers("a meeting", with(mixed, RoadStrokes::undo), x -> 10 * x.count(0) + x.count(1), 42);
        Told two = with(mixed, x -> {
            x.undo();
            x.undo();
        });
        E.answers("then a road", two, x -> 10 * x.count(0) + x.count(1), 41);
        E.answers("then a meeting", with(two, RoadStrokes::undo), x -> 10 * x.count(0) + x.count(1), 31);
        E.answers("a meeting where a road was undone", with(corner(), x -> {
            x.road(1, 2, 0, 0);
            x.undo();
            x.meeting(20, 20);
            x.undo();
        }), x -> 10 * x.count(0) + x.count(1), 31);
        E.answers("a road where a meeting was undone", with(corner(), x -> {
            x.meeting(20, 20);
            x.undo();
            x.road(1, 2, 0, 0);
            x.undo();
        }), x -> 10 * x.count(0) + x.count(1), 31);
        E.answers("what was altered stays", with(corner(), x -> {
            x.meeting(20, 20);
            x.alter(0, 1, 9);
            x.undo();
        }), x -> x.info(0, 3), 9);
        E.answers("of what was read the last alone", with(with(corner(), row(0, 0, 1, 2, 0, 0, 2, 0, 0, 0)),
            x -> {
                x.read(0);
                x.undo();
            }), x -> 10 * x.count(0) + x.count(1), 32);
    }

    // Promise 4: what is undone is no such thing
    private static void undoneNumbersAreNoMore() {
        E.refused("a road", with(corner(), RoadStrokes::undo), x -> x.info(0, 0), BAD);
        E.refused("its stroke", with(corner(), RoadStrokes::undo), x -> x.stroke(0, 0), BAD);
        E.refused("its sheet", with(corner(), RoadStrokes::undo), x -> x.bridges(1), BAD);
        E.refused("a meeting", with(net(xys(1, 1, 2, 2)), RoadStrokes::undo), x -> x.at(1, 0), BAD);
        Told parted = with(net(xys(0, 0, 10, 0, 20, 0), road(0, 1, 0, 0),
            road(1, 2, 0, 0)), RoadStrokes::undo);
        E.answers("what was joined to it is not", parted, x -> x.joined(1, 0), NONE);
        E.answers("no pair is left", parted, x -> x.count(7), 0);
    }

    // Promise 5: 'The KIND (what = 0), USE (1) of a ROAD is v ... BAD'
    private static void alterEdges() {
        for (int v : new int[] {-1, 1, MIN, MAX, 24}) {
            E.refused("road " + v + " of one, kind", corner(), x -> x.alter(v, 0, 0), BAD);
            E.refused("road " + v + " of one, use", corner(), x -> x.alter(v, 1, 0), BAD);
        }
        for (int what : new int[] {-1, 2, MIN, MAX}) {
            E.refused("what is " + what, corner(), x -> x.alter(0, what, 0), BAD);
        }
        E.answers("3 is a use", corner(), x -> x.alter(0, 1, 3), 4);
        E.refused("3 is no kind", corner(), x -> x.alter(0, 0, 3), BAD);
        E.refused("no road at all", net(xys(0, 0, 1, 1)), x -> x.alter(0, 0, 0), BAD);
    }

    // Promise 5: 'is v: what it was'
    private static void alterAnswersWhatItWas() {
        RoadStrokes x = made(corner());
        E.due("kind", x.alter(0, 0, 2), 1);
        E.due("the same again", x.alter(0, 0, 2), 2);
        E.due("is v", x.info(0, 2), 2);
        E.due("use", x.alter(0, 1, 0), 4);
        E.due("the same again", x.alter(0, 1, 0), 0);
        E.due("is v", x.info(0, 3), 0);
        E.due("worth anew", x.info(0, 5), 120);
    }

    // Promise 6: 'BAD; NULL'
    private static void readBadThenNull() {
        for (int s : new int[] {-1, 4, MIN, MAX}) {
            E.refused("read(" + s + ")", corner(), x -> x.read(s), BAD);
        }
        for (int row = 0; row <= 3; row++) {
            int s = row;
            E.found("a LOST row " + s, corner(), x -> x.read(s), NULL);
            E.found("lost again " + s, with(with(corner(), row(s, 0, 1, 2, 0, 0)), x -> x.lose(s)),
                x -> x.read(s), NULL);
            E.answers("row " + s, with(corner(), row(s, 0, 1, 2, 0, 0)), x -> x.read(s), 1);
        }
    }

    // Promise 6: 'its items, four for each, as many as are whole'
    private static void readAsManyAsAreWhole() {
        int[] items = {1, 2, 0, 5, 0, 2, 2, 7};
        int[] whole = {0, 0, 0, 0, 1, 1, 1, 1, 2};
        for (int n = 0; n <= 8; n++) {
            RoadStrokes x = made(with(corner(), row(2, 1, Arrays.copyOf(items, n))));
            E.due("read of " + n + " items", x.read(2), whole[n]);
            E.due("roads after " + n + " items", x.count(1), 1 + whole[n]);
            E.due("the row stays", x.lose(2), n);
        }
        E.refused("a row of 0 items", with(corner(), row(2, 1)), x -> x.read(2), 0);
        E.refused("a row of 3 items", with(corner(), row(2, 1, 1, 2, 0)), x -> x.read(2), 0);
        RoadStrokes x = made(with(corner(), row(2, 1, items)));
        x.read(2);
        int[] want = {0, 2, 2, 7};
        for (int what = 0; what < 4; what++) {
            E.due("info(2, " + what + ")", x.info(2, what), want[what]);
        }
    }

    // Promise 6: 'as long as each may be: how many'
    private static void readAsLongAsEachMayBe() {
        int[][] bad = {{-1, 2, 0, 0}, {3, 2, 0, 0}, {2, -1, 0, 0}, {2, 3, 0, 0}, {2, 2, 0, 0}, {0, 2, -1, 0},
            {0, 2, 3, 0}, {0, 2, 0, -1}, {0, 2, 0, 10}, {0, 1, 0, 0}, {1, 0, 0, 0}, {1, 2, 0, 0}, {2, 1, 0, 0}};
        for (int[] b : bad) {
            RoadStrokes x = made(with(corner(),
                row(0, 2, 1, 2, 0, 5, b[0], b[1], b[2], b[3], 2, 0, 0, 0)));
            E.due("the first alone", x.read(0), 1);
            E.due("two roads", x.count(1), 2);
            E.due("the first of the row", x.info(1, 3), 5);
            E.due("it is settled", x.info(1, 6), 1);
        }
        E.refused("none may be", with(corner(), row(0, 2, 1, 0, 0, 0, 1, 2, 0, 0)), x -> x.read(0), 0);
        E.refused("no meetings", row(0, 2, 0, 1, 0, 0), x -> x.read(0), 0);
        E.refused("items of a new row", with(corner(), x -> x.sheet(0, 2, 60)), x -> x.read(0), 0);
    }

    // Promise 6 with 'rows of 0 to 60 items'
    private static void readOfFifteenRoads() {
        RoadStrokes x = made(Edges::sixteenMeetings);
        x.sheet(3, 0, 60);
        for (int r = 0; r < 15; r++) {
            x.put(3, 0, 4 * r, r);
            x.put(3, 0, 4 * r + 1, 15);
            x.put(3, 0, 4 * r + 2, r % 3);
            x.put(3, 0, 4 * r + 3, r % 10);
        }
        E.due("read of 60 items", x.read(3), 15);
        for (int r = 0; r < 15; r++) {
            E.due("from", x.info(r, 0), r);
            E.due("to", x.info(r, 1), 15);
            E.due("kind", x.info(r, 2), r % 3);
            E.due("use", x.info(r, 3), r % 10);
        }
        E.due("again: none may be", x.read(3), 0);
    }

    // Promise 6 with 'FORM: 0 bytes, 1 shorts, 2 ints'
    private static void readOfEachForm() {
        for (int form = 0; form <= 2; form++) {
            E.answers("form " + form, with(corner(), row(1, form, 2, 1, 2, 9)), x -> x.read(1), 1);
        }
        E.answers("the lowest bits of a byte", with(corner(), row(1, 0, 258, 257, 256, 265)), x -> x.read(1), 1);
        E.refused("an int has them all", with(corner(), row(1, 2, 258, 257, 256, 265)), x -> x.read(1), 0);
    }

    // Promise 6: 'as long as each may be', at 24 ROADS
    private static void readUntilFull() {
        int[] three = {0, 1, 0, 0, 1, 2, 0, 0, 2, 3, 0, 0};
        RoadStrokes x = made(with(y -> columns(y, 22), row(0, 0, three)));
        E.due("two come", x.read(0), 2);
        E.due("24 in all", x.count(1), 24);
        E.refused("none comes", with(Edges::fullNet, row(0, 0, three)), y -> y.read(0), 0);
    }

    // Promise 7: 'x (what = 0), y (1), how many ROADS are there (2) of a MEETING. BAD'
    private static void atEdges() {
        for (int v : new int[] {-1, 3, MIN, MAX, 16}) {
            E.refused("at(" + v + ", 0)", corner(), x -> x.at(v, 0), BAD);
            E.refused("at(" + v + ", 2)", corner(), x -> x.at(v, 2), BAD);
            E.refused("at(0, " + v + ")", corner(), x -> x.at(0, v), BAD);
        }
        E.answers("the last one's x", corner(), x -> x.at(2, 0), 10);
        E.answers("the last one's y", corner(), x -> x.at(2, 1), 10);
        E.answers("the last one's roads", corner(), x -> x.at(2, 2), 0);
    }

    // Promise 7: 'how many ROADS are there', of none and of as many as may be
    private static void atOfNoneAndOfMostRoads() {
        E.answers("no road at all", net(xys(4, 4)), x -> x.at(0, 2), 0);
        E.answers("at its first", corner(), x -> x.at(0, 2), 1);
        E.answers("at its second", corner(), x -> x.at(1, 2), 1);
        E.answers("fifteen", x -> {
            sixteenMeetings(x);
            for (int m = 0; m < 15; m++) {
                x.road(m % 2 == 0 ? m : 15, m % 2 == 0 ? 15 : m, 0, 0);
            }
        }, x -> x.at(15, 2), 15);
    }

    // Promise 8: 'The MEETINGS (what = 0, 1 ...), ... STROKE (6) of a ROAD. BAD'
    private static void infoEdges() {
        for (int v : new int[] {-1, 1, MIN, MAX, 24}) {
            E.refused("info(" + v + ", 0)", corner(), x -> x.info(v, 0), BAD);
            E.refused("info(" + v + ", 6)", corner(), x -> x.info(v, 6), BAD);
        }
        for (int what : new int[] {-1, 7, MIN, MAX}) {
            E.refused("info(0, " + what + ")", corner(), x -> x.info(0, what), BAD);
        }
        int[] want = {0, 1, 1, 4, 10, 100, 0};
        for (int what = 0; what <= 6; what++) {
            int w = what;
            E.answers("info(0, " + what + ")", corner(), x -> x.info(0, w), want[what]);
        }
        E.refused("no road at all", net(xys(0, 0, 1, 1)), x -> x.info(0, 0), BAD);
    }

    // Promise 8: 'as told'
    private static void infoAsTold() {
        Told back = net(xys(0, 0, 10, 0), road(1, 0, 0, 0));
        E.answers("its first", back, x -> x.info(0, 0), 1);
        E.answers("its second", back, x -> x.info(0, 1), 0);
        E.answers("its first, when refused again", with(back, x -> x.road(0, 1, 2, 2)), x -> x.info(0, 0), 1);
    }
}
