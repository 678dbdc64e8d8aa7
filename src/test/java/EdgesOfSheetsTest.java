/**
 * The edges that the document names in 'Terms' of SHEETS and CUTTING, of FAR, DETOUR, USEFUL and BRIDGES, and in
 * promises 13 to 17: a test for each sentence, which is told above it. E.refused and E.asked ask too that the call
 * changes nothing.
 */
public final class EdgesOfSheetsTest extends Edges {
    private static final Edges E = new Edges();

    public static void main(String[] args) {
        sheetZeroHasNone();
        sheetOfAll();
        sheetsOfNoStrokes();
        sheetsOfMostStrokes();
        sheetsBehindTheLast();
        limitsAreZeroTo9999();
        cutWorthLessThanLimit();
        cutNotTheOnlyOneOfItsNet();
        cutNotTheOnlyOneOnASmallerSheet();
        cutTheLeastWorth();
        cutOfLikeOnesTheGreatestNumber();
        cutAsLongAsThereIsOne();
        deadEndIfNotClosed();
        deadEndAtOneOfItsTwoEnds();
        deadEndAtBothEnds();
        noDeadEndWhereAnotherIs();
        noDeadEndOnAnothersMiddle();
        deadEndByWhatIsLeft();
        deadEndThatMeetsItself();
        noDeadEndThatPartsTheNet();
        cutEdges();
        cutFirstOrNone();
        farTheLeastLength();
        farNone();
        farOfOneMeeting();
        farEdges();
        detourOnTheSheetOfAll();
        detourOfAsLongAWay();
        detourNone();
        detourEdges();
        usefulWorthMost();
        usefulRanksAnew();
        usefulOfLikeOnesTheLeast();
        usefulNone();
        usefulEdges();
        bridgesOfEachSheet();
        bridgesOfARing();
        bridgesOfAll();
        bridgesEdges();
        E.end();
    }

    /** Four strokes of a road each, worth 200, 10, 20, 100, which have the ranks 0 to 3, and a meeting apart. */
    private static Told path() {
        return net(xys(0, 0, 10, 0, 10, 10, 20, 10, 20, 20, 30, 30), road(0, 1, 1, 9),
            road(1, 2, 0, 0), road(2, 3, 0, 1), road(3, 4, 0, 9));
    }

    /** How many are cut, what is left, its length, the first that is cut. */
    private static void cuts(String what, Told told, int n, int limit, int... want) {
        for (int w = 0; w <= 3; w++) {
            int of = w;
            E.asked(what + ": cut(" + n + ", " + limit + ", " + w + ")", told, x -> x.cut(n, limit, of), want[w]);
        }
    }

    // 'SHEET n has the STROKES of the first n RANKS (n 0 to ...)'
    private static void sheetZeroHasNone() {
        E.asked("no way", path(), x -> x.far(0, 0, 1), NONE);
        E.asked("no bridges", path(), x -> x.bridges(0), 0);
        cuts("no strokes", path(), 0, 9999, 0, 0, 0, NONE);
    }

    // '... to as many as there are STROKES'
    private static void sheetOfAll() {
        E.asked("all roads", path(), x -> x.far(4, 0, 4), 40);
        E.asked("all bridges", path(), x -> x.bridges(4), 15);
        cuts("all strokes", path(), 4, 0, 0, 15, 40, NONE);
        E.asked("one less", path(), x -> x.far(3, 0, 4), NONE);
        E.asked("one less", path(), x -> x.bridges(3), 7);
        cuts("one less", path(), 3, 0, 0, 7, 30, NONE);
    }

    // the same, of no STROKES
    private static void sheetsOfNoStrokes() {
        Told two = net(xys(0, 0, 1, 1));
        E.asked("sheet 0", two, x -> x.bridges(0), 0);
        E.asked("sheet 0", two, x -> x.far(0, 0, 1), NONE);
        cuts("sheet 0", two, 0, 9999, 0, 0, 0, NONE);
        cuts("sheet 0 of a new object", Edges::nothing, 0, 0, 0, 0, 0, NONE);
        E.refused("no sheet 1", two, x -> x.bridges(1), BAD);
        E.refused("no sheet 1", two, x -> x.far(1, 0, 1), BAD);
        E.refused("no sheet 1", two, x -> x.cut(1, 0, 0), BAD);
        E.refused("no sheet 1 of a new object", Edges::nothing, x -> x.bridges(1), BAD);
    }

    // the same, of 24
    private static void sheetsOfMostStrokes() {
        E.asked("sheet 24", Edges::fullNet, x -> x.far(24, 0, 7), 88);
        cuts("sheet 24", Edges::fullNet, 24, 9999, 0, 0xffffff, 872, NONE);
        E.asked("sheet 24", Edges::fullNet, x -> x.bridges(24), 0);
        E.refused("no sheet 25", Edges::fullNet, x -> x.far(25, 0, 7), BAD);
        E.refused("no sheet 25", Edges::fullNet, x -> x.cut(25, 9999, 0), BAD);
        E.refused("no sheet 25", Edges::fullNet, x -> x.bridges(25), BAD);
    }

    // the same: SHEETS that are not there
    private static void sheetsBehindTheLast() {
        for (int n : new int[] {-1, 5, MIN, MAX, 24}) {
            E.refused("sheet " + n, path(), x -> x.far(n, 0, 0), BAD);
            E.refused("sheet " + n, path(), x -> x.cut(n, 40, 0), BAD);
            E.refused("sheet " + n, path(), x -> x.bridges(n), BAD);
        }
        Told joined = net(xys(0, 0, 10, 0, 20, 0), road(0, 1, 0, 0), road(1, 2, 0, 0));
        E.refused("as many as strokes, not as roads", joined, x -> x.bridges(2), BAD);
        E.refused("fewer when undone", with(path(), RoadStrokes::undo), x -> x.bridges(4), BAD);
    }

    // 'CUTTING a SHEET by LIMIT (0 to 9999)'
    private static void limitsAreZeroTo9999() {
        cuts("limit 0", path(), 4, 0, 0, 15, 40, NONE);
        cuts("limit 9999", path(), 4, 9999, 3, 1, 10, 3);
        for (int limit : new int[] {-1, 10000, MIN, MAX}) {
            for (int w = 0; w <= 3; w++) {
                int what = w;
                E.refused("limit " + limit, path(), x -> x.cut(4, limit, what), BAD);
            }
            E.refused("limit " + limit + " of nothing", Edges::nothing, x -> x.cut(0, limit, 0), BAD);
        }
    }

    // 'of WORTH less than LIMIT'
    private static void cutWorthLessThanLimit() {
        cuts("just its worth", path(), 4, 100, 0, 15, 40, NONE);
        cuts("one more", path(), 4, 101, 3, 1, 10, 3);
        cuts("just its worth", path(), 3, 20, 0, 7, 30, NONE);
        cuts("one more", path(), 3, 21, 2, 1, 10, 2);
        Told least = net(xys(0, 0, 1, 0, 1, 1), road(0, 1, 0, 1), road(1, 2, 0, 0));
        cuts("worth 1, limit 1", least, 2, 1, 0, 3, 2, NONE);
        cuts("worth 1, limit 2", least, 2, 2, 1, 1, 1, 1);
    }

    // 'and is not the only one of its NET'
    private static void cutNotTheOnlyOneOfItsNet() {
        Told three = net(xys(0, 0, 5, 0, 20, 20, 25, 20, 0, 20, 5, 25),
            road(0, 1, 0, 0), road(2, 3, 0, 1), road(4, 5, 0, 0));
        cuts("three nets of one each", three, 3, 9999, 0, 7, 20, NONE);
        cuts("one net of one", net(xys(0, 0, 5, 0), road(0, 1, 0, 0)), 1, 9999, 0, 1, 5, NONE);
        Told more = with(three, x -> {
            x.meeting(5, 5);
            x.road(1, 6, 0, 0);
            x.meeting(25, 25);
            x.road(3, 7, 0, 0);
        });
        cuts("one of each is left", more, 5, 9999, 2, 7, 20, 4);
    }

    // the same: of those that are left of the SHEET
    private static void cutNotTheOnlyOneOnASmallerSheet() {
        cuts("its net has others, the sheet has not", path(), 1, 9999, 0, 1, 10, NONE);
        Told two = with(path(), x -> {
            x.meeting(30, 25);
            x.road(5, 6, 0, 0);
            x.meeting(25, 25);
            x.road(6, 7, 0, 0);
        });
        cuts("the second net's first", two, 5, 9999, 3, 17, 15, 3);
        cuts("both of the second net", two, 6, 9999, 4, 17, 15, 5);
    }

    // 'the one with the least WORTH ... is CUT'
    private static void cutTheLeastWorth() {
        // a trunk that is worth 240, with three on it that are worth 30, 20, 40
        Told comb = net(xys(0, 10, 10, 10, 20, 10, 0, 20, 10, 20, 20, 20), road(0, 1, 2, 0),
            road(1, 2, 2, 0), road(0, 3, 0, 2), road(1, 4, 0, 1), road(2, 5, 0, 3));
        cuts("one", comb, 4, 21, 1, 11, 40, 2);
        cuts("two", comb, 4, 31, 2, 9, 30, 2);
        cuts("three", comb, 4, 41, 3, 1, 20, 2);
    }

    // 'of like ones the greatest number'
    private static void cutOfLikeOnesTheGreatestNumber() {
        Told comb = net(xys(0, 10, 10, 10, 20, 10, 0, 20, 10, 20, 20, 20), road(0, 3, 0, 1),
            road(1, 4, 1, 0), road(2, 5, 0, 1), road(0, 1, 2, 0), road(1, 2, 2, 0));
        cuts("three like ones", comb, 4, 21, 3, 8, 20, 2);
        cuts("without the greatest", with(comb, x -> x.alter(2, 1, 9)), 4, 21, 2, 12, 30, 1);
        cuts("two left, like", net(xys(0, 0, 5, 0, 5, 5), road(0, 1, 0, 0), road(1, 2, 0, 0)),
            2, 9999, 1, 1, 5, 1);
    }

    // 'as long as there is a STROKE of it that is a DEAD END'
    private static void cutAsLongAsThereIsOne() {
        Told stairs = x -> {
            for (int m = 0; m < 16; m++) {
                x.meeting(2 * ((m + 1) / 2), 2 * (m / 2));
            }
            for (int r = 0; r < 15; r++) {
                x.road(r, r + 1, 0, 0);
            }
        };
        E.answers("fifteen strokes", stairs, x -> x.count(2), 15);
        cuts("all but one", stairs, 15, 3, 14, 1, 2, 14);
        cuts("none", stairs, 15, 2, 0, 0x7fff, 30, NONE);
        cuts("till one is worth too much", with(stairs, x -> x.alter(7, 1, 1)), 15, 3, 14, 1 << 7, 2, 14);
        cuts("of those worth most one stays too", with(stairs, x -> {
            x.alter(7, 1, 1);
            x.alter(9, 1, 1);
        }), 15, 3, 12, 7 << 7, 6, 14);
    }

    private static Told ringWithTail(int tailUse) {
        return with(net(ringPlaces(), ringRoads(0, 0)), x -> {
            x.meeting(10, 10);
            x.road(8, 0, 1, tailUse);
        });
    }

    // 'A STROKE is a DEAD END, if it is not CLOSED'
    private static void deadEndIfNotClosed() {
        cuts("the ring is worth 120, the tail 200", ringWithTail(9), 2, 200, 0, 3, 130, NONE);
        cuts("the tail alone is cut", ringWithTail(9), 2, 201, 1, 1, 120, 1);
        cuts("by any limit", ringWithTail(9), 2, 9999, 1, 1, 120, 1);
        Told longer = with(net(ringPlaces(), ringRoads(1, 0)), x -> {
            x.meeting(11, 29);
            x.road(8, 0, 1, 9);
        });
        cuts("closed, worth 240", longer, 2, 321, 0, 3, 150, NONE);
        cuts("open by a lane and a highway, worth 320", with(longer, x -> {
            x.alter(3, 0, 0);
            x.alter(4, 0, 2);
        }), 2, 321, 1, 2, 30, 0);
    }

    // 'and at one of its two ends, at least, no other STROKE that is left is at that MEETING'
    private static void deadEndAtOneOfItsTwoEnds() {
        int[] at = xys(0, 0, 10, 0, 10, 10);
        cuts("its first end", net(at, road(0, 1, 0, 0), road(1, 2, 2, 0)), 2, 11, 1, 2, 10, 0);
        cuts("its second end", net(at, road(1, 0, 0, 0), road(1, 2, 2, 0)), 2, 11, 1, 2, 10, 0);
        cuts("the highest meeting", net(at, road(0, 1, 2, 0), road(1, 2, 0, 0)), 2, 11, 1, 1, 10, 1);
    }

    // the same: 'at least'
    private static void deadEndAtBothEnds() {
        Told tee = net(xys(0, 10, 10, 10, 20, 10, 10, 20), road(0, 1, 0, 0), road(1, 2, 0, 0),
            road(1, 3, 2, 0));
        E.answers("two strokes", tee, x -> x.count(2), 2);
        cuts("bare at both, touched between", tee, 2, 21, 1, 2, 10, 0);
        cuts("not by its own worth", tee, 2, 20, 0, 3, 30, NONE);
    }

    // the same: another STROKE at both of its ends
    private static void noDeadEndWhereAnotherIs() {
        cuts("between two", path(), 4, 100, 0, 15, 40, NONE);
        Told square = net(xys(0, 0, 10, 0, 10, 10, 0, 10), road(0, 1, 0, 0), road(1, 2, 0, 0),
            road(2, 3, 0, 0), road(3, 0, 0, 0));
        cuts("a square", square, 4, 9999, 0, 15, 40, NONE);
        cuts("three sides", square, 3, 9999, 2, 1, 10, 2);
    }

    // the same: at that MEETING, not at that one's end
    private static void noDeadEndOnAnothersMiddle() {
        Told ladder = net(xys(0, 0, 10, 0, 20, 0, 0, 10, 10, 10, 20, 10), road(0, 1, 2, 0),
            road(1, 2, 2, 0), road(3, 4, 2, 0), road(4, 5, 2, 0), road(1, 4, 0, 0));
        E.answers("three strokes", ladder, x -> x.count(2), 3);
        cuts("a rung", ladder, 3, 240, 0, 7, 50, NONE);
        cuts("when a side is gone", ladder, 3, 241, 2, 1, 20, 1);
    }

    // the same: 'that is left'
    private static void deadEndByWhatIsLeft() {
        cuts("what is not on the sheet is not there", path(), 2, 11, 1, 1, 10, 1);
        cuts("on the sheet of three it is", path(), 3, 11, 0, 7, 30, NONE);
        cuts("what is cut is not there", path(), 4, 101, 3, 1, 10, 3);
    }

    // the same: 'no other STROKE', where it ends on itself
    private static void deadEndThatMeetsItself() {
        Told drop = with(net(ringPlaces(), ringRoads(0, 0)), x -> {
            x.meeting(0, 0);
            x.road(8, 0, 0, 0);
            x.meeting(5, 5);
            x.road(8, 9, 2, 9);
        });
        E.answers("its own nine roads", drop, x -> x.stroke(0, 0), 9);
        E.answers("two strokes", drop, x -> x.count(2), 2);
        cuts("no other one is at the end on itself", drop, 2, 131, 1, 2, 10, 0);
        cuts("but for its worth", drop, 2, 130, 0, 3, 140, NONE);
        Told held = with(drop, x -> {
            x.meeting(10, 10);
            x.road(0, 10, 2, 9);
        });
        cuts("now another one is", held, 3, 131, 0, 7, 150, NONE);
    }

    // 'and without it the STROKES left that are in one NET are in one still (by TOUCHING)'
    private static void noDeadEndThatPartsTheNet() {
        // stroke 0 goes on from stroke 1's end by stroke 2's and has a bare end; it is worth 20, they 120 and 200
        int[] at = xys(10, 0, 10, 10, 10, 20, 0, 0, 20, 10);
        Told trunk = net(at, road(0, 1, 0, 0), road(1, 2, 0, 0), road(3, 0, 2, 0),
            road(1, 4, 1, 9));
        E.answers("three strokes", trunk, x -> x.count(2), 3);
        cuts("it would part two", trunk, 3, 120, 0, 7, 40, NONE);
        cuts("till one of these is cut", trunk, 3, 121, 2, 4, 10, 1);
        Told round = with(trunk, x -> {
            x.meeting(20, 5);
            x.road(4, 5, 1, 9);
            x.meeting(0, 5);
            x.road(3, 6, 1, 9);
            x.road(5, 6, 1, 9);
        });
        E.answers("joined by a way round", round, x -> x.stroke(0, 2), 20);
        E.asked("then it is cut", round, x -> x.cut(x.count(2), 21, 3), 0);
        E.asked("it alone", round, x -> x.cut(x.count(2), 21, 0), 1);
    }

    // Promise 14: 'how many are CUT (what = 0) ... the first that is CUT (3 ...). BAD'
    private static void cutEdges() {
        for (int what : new int[] {-1, 4, MIN, MAX}) {
            E.refused("what " + what, path(), x -> x.cut(4, 40, what), BAD);
            E.refused("what " + what + " of sheet 0", path(), x -> x.cut(0, 40, what), BAD);
        }
        for (int what = 0; what <= 3; what++) {
            int w = what;
            E.refused("sheet -1, what " + what, path(), x -> x.cut(-1, 40, w), BAD);
            E.refused("sheet 5, what " + what, path(), x -> x.cut(5, 40, w), BAD);
        }
    }

    // Promise 14: '(3; NONE)'
    private static void cutFirstOrNone() {
        E.asked("none is cut", path(), x -> x.cut(4, 100, 3), NONE);
        E.asked("the first, not the last", path(), x -> x.cut(4, 101, 3), 3);
        E.asked("stroke 0 is one too", with(path(), x -> x.alter(0, 1, 0)), x -> x.cut(4, 21, 3), 0);
    }

    // 'FAR of two MEETINGS on SHEET n: the least LENGTH of a way by ROADS of its STROKES'
    private static void farTheLeastLength() {
        // a short way of lanes, a long way of highways; the first sheets have the highways alone
        Told two = net(xys(0, 0, 0, 30, 30, 30, 30, 0, 15, 1), road(0, 1, 2, 9), road(1, 2, 2, 9),
            road(2, 3, 2, 9), road(0, 4, 0, 0), road(4, 3, 0, 0));
        E.answers("four strokes", two, x -> x.count(2), 4);
        E.asked("the long way", two, x -> x.far(3, 0, 3), 90);
        E.asked("the short way", two, x -> x.far(4, 0, 3), 32);
        E.asked("the other way round", two, x -> x.far(4, 3, 0), 32);
        E.asked("half of it", two, x -> x.far(4, 4, 0), 16);
        E.asked("by all kinds", two, x -> x.far(4, 4, 2), 46);
    }

    // 'NONE: there is no way'
    private static void farNone() {
        E.asked("not on this sheet yet", path(), x -> x.far(1, 0, 2), NONE);
        E.asked("on this one", path(), x -> x.far(2, 0, 2), 20);
        E.asked("to a meeting without roads", path(), x -> x.far(4, 0, 5), NONE);
        E.asked("from it", path(), x -> x.far(4, 5, 0), NONE);
        E.asked("in another net", net(xys(0, 0, 1, 0, 0, 9, 1, 9), road(0, 1, 0, 0), road(2, 3, 0, 0)),
            x -> x.far(2, 1, 3), NONE);
    }

    // the same, of one MEETING: no ROAD is needed
    private static void farOfOneMeeting() {
        E.asked("on sheet 0", path(), x -> x.far(0, 2, 2), 0);
        E.asked("on the sheet of all", path(), x -> x.far(4, 2, 2), 0);
        E.asked("without roads", path(), x -> x.far(4, 5, 5), 0);
    }

    // Promise 13: 'FAR on SHEET n; NONE. BAD'
    private static void farEdges() {
        for (int v : new int[] {-1, 6, MIN, MAX, 16}) {
            E.refused("from " + v, path(), x -> x.far(4, v, 0), BAD);
            E.refused("to " + v, path(), x -> x.far(4, 0, v), BAD);
            E.refused("both " + v, path(), x -> x.far(4, v, v), BAD);
            E.refused("on sheet 0 to " + v, path(), x -> x.far(0, 0, v), BAD);
        }
        E.asked("to the last one", path(), x -> x.far(4, 5, 5), 0);
        E.refused("the second of one", net(xys(1, 1)), x -> x.far(0, 0, 1), BAD);
        E.refused("of none", Edges::nothing, x -> x.far(0, 0, 0), BAD);
    }

    // 'DETOUR of a ROAD: FAR of its MEETINGS on the SHEET of all, without that ROAD, less its LENGTH'
    private static void detourOnTheSheetOfAll() {
        Told square = net(xys(0, 0, 10, 0, 10, 9, 0, 9), road(0, 1, 2, 9), road(2, 1, 0, 0),
            road(2, 3, 0, 0), road(0, 3, 0, 0));
        E.asked("by the other three", square, x -> x.detour(0), 9 + 10 + 9 - 10);
        E.asked("of a lane too", square, x -> x.detour(3), 10 + 9 + 10 - 9);
        E.asked("told the other way round", square, x -> x.detour(1), 10 + 9 + 10 - 9);
    }

    // the same: a way as long
    private static void detourOfAsLongAWay() {
        Told three = net(xys(0, 0, 10, 10, 10, 0), road(0, 1, 0, 0), road(0, 2, 0, 0),
            road(2, 1, 0, 0));
        E.asked("0", three, x -> x.detour(0), 0);
        E.asked("more", three, x -> x.detour(1), 20);
    }

    // 'NONE' of DETOUR
    private static void detourNone() {
        E.asked("the first", path(), x -> x.detour(0), NONE);
        E.asked("the last", path(), x -> x.detour(3), NONE);
        E.asked("one between", path(), x -> x.detour(1), NONE);
        E.asked("a tail of a ring", ringWithTail(0), x -> x.detour(8), NONE);
        E.asked("the ring itself", ringWithTail(0), x -> x.detour(7), 120 - 20 - 20);
    }

    // Promise 16: 'DETOUR; NONE. BAD'
    private static void detourEdges() {
        for (int v : new int[] {-1, 4, MIN, MAX, 24}) {
            E.refused("road " + v, path(), x -> x.detour(v), BAD);
        }
        E.asked("road 23", Edges::fullNet, x -> x.detour(23), 58 + 30 + 34 - 54);
        E.refused("road 24", Edges::fullNet, x -> x.detour(24), BAD);
        E.refused("no road at all", net(xys(0, 0, 1, 1)), x -> x.detour(0), BAD);
    }

    private static void useful(String what, Told told, int which, int much) {
        E.asked(what + ": useful(0)", told, x -> x.useful(0), which);
        E.asked(what + ": useful(1)", told, x -> x.useful(1), much);
    }

    // 'USEFUL is the ROAD whose USE, were it 9, makes the SHEET of the first RANK worth most'
    private static void usefulWorthMost() {
        int[] at = xys(0, 0, 10, 0, 20, 0, 29, 0);
        useful("one road", net(at, road(0, 1, 0, 0)), 0, 100);
        useful("one road that has it", net(at, road(0, 1, 0, 9)), 0, 100);
        useful("the street of a stroke", net(at, road(0, 1, 0, 0), road(1, 2, 1, 0)), 1, 210);
        useful("what is gained, not what it is worth", net(at, road(0, 1, 1, 8), road(1, 2, 1, 0)), 1, 380);
        useful("the longer one", net(at, road(3, 2, 1, 0), road(0, 1, 1, 0), road(1, 2, 1, 0)),
            1, 200 + 20 + 18);
        useful("a highway gains less than a street", net(at, road(0, 1, 2, 0), road(1, 2, 1, 0)), 1, 320);
    }

    // '(STROKES, RANKS anew)'
    private static void usefulRanksAnew() {
        int[] at = xys(0, 0, 10, 0, 0, 20, 10, 20, 20, 10, 30, 10);
        useful("the first one gains less, but is worth more", net(at, road(0, 1, 2, 7), road(2, 3, 1, 0)), 0, 210);
        useful("another one becomes the first", net(at, road(0, 1, 0, 8), road(2, 3, 1, 3)), 1, 200);
        useful("of another net", net(at, road(0, 1, 0, 9), road(2, 3, 0, 9), road(4, 5, 2, 0)), 2, 210);
        useful("none does", net(at, road(0, 1, 0, 0), road(2, 3, 0, 0), road(4, 5, 2, 9)), 0, 210);
    }

    // 'of like ones the least'
    private static void usefulOfLikeOnesTheLeast() {
        int[] at = xys(0, 0, 10, 0, 20, 0, 0, 20, 10, 20);
        useful("of one stroke", net(at, road(0, 1, 1, 3), road(1, 2, 1, 3)), 0, 280);
        useful("of two strokes", net(at, road(0, 1, 1, 3), road(3, 4, 1, 5)), 0, 200);
        useful("all have it", net(at, road(3, 4, 0, 9), road(0, 1, 0, 9), road(1, 2, 0, 9)), 0, 200);
    }

    // Promise 17: 'NONE: there are no ROADS'
    private static void usefulNone() {
        useful("a new object", Edges::nothing, NONE, NONE);
        useful("meetings alone", Edges::sixteenMeetings, NONE, NONE);
        useful("all is undone", with(net(xys(0, 0, 1, 0), road(0, 1, 0, 0)), RoadStrokes::undo),
            NONE, NONE);
    }

    // Promise 17: 'which (what = 0), how much (1) ... BAD'
    private static void usefulEdges() {
        for (int what : new int[] {-1, 2, MIN, MAX}) {
            E.refused("what " + what, path(), x -> x.useful(what), BAD);
            E.refused("BAD, though there are no roads: what " + what, Edges::nothing, x -> x.useful(what), BAD);
        }
        useful("24 roads", Edges::fullNet, 15, 580);
        useful("the last of 24", with(Edges::fullNet, x -> x.alter(23, 0, 1)), 23, 54 * 20);
    }

    // 'BRIDGES of SHEET n: its ROADS without each of which some that were joined (by ROADS of it) are not, as bits'
    private static void bridgesOfEachSheet() {
        Told square = net(xys(0, 0, 10, 0, 10, 10, 0, 10), road(0, 1, 0, 3), road(1, 2, 0, 2),
            road(2, 3, 0, 1), road(3, 0, 0, 0));
        int[] want = {0, 1, 3, 7, 0};
        for (int n = 0; n <= 4; n++) {
            int sheet = n;
            E.asked("a square, sheet " + n, square, x -> x.bridges(sheet), want[n]);
        }
        Told two = net(xys(0, 0, 1, 0, 0, 9, 1, 9), road(0, 1, 0, 0), road(2, 3, 0, 0));
        E.asked("two nets", two, x -> x.bridges(2), 3);
        E.asked("the first of two nets", two, x -> x.bridges(1), 1);
    }

    // the same: ROADS of a ring are none, each of those of a ring that lacks one is
    private static void bridgesOfARing() {
        Told ring = net(ringPlaces(), ringRoads(0, 0));
        E.asked("a ring", ring, x -> x.bridges(1), 0);
        E.asked("a road less", with(ring, RoadStrokes::undo), x -> x.bridges(1), 0x7f);
        E.asked("with a tail", ringWithTail(0), x -> x.bridges(2), 1 << 8);
    }

    // the same: 'as bits', of as many as may be
    private static void bridgesOfAll() {
        Told star = x -> {
            sixteenMeetings(x);
            for (int m = 1; m < 16; m++) {
                x.road(0, m, 0, 0);
            }
        };
        E.asked("fifteen", star, x -> x.bridges(x.count(2)), 0x7fff);
        Told last = x -> {
            sixteenMeetings(x);
            for (int r = 0; r < 23; r++) {
                x.road(r % 8, 8 + (r % 8 + r / 8) % 7, 0, 0);
            }
            x.road(0, 15, 0, 0);
        };
        E.asked("road 23 alone", last, x -> x.bridges(x.count(2)), 1 << 23);
    }

    // Promise 15: 'BRIDGES, as bits. BAD'
    private static void bridgesEdges() {
        for (int n : new int[] {-1, 5, MIN, MAX}) {
            E.refused("sheet " + n, path(), x -> x.bridges(n), BAD);
        }
        E.refused("no sheet 1", Edges::sixteenMeetings, x -> x.bridges(1), BAD);
        E.asked("sheet 0", Edges::sixteenMeetings, x -> x.bridges(0), 0);
    }
}
