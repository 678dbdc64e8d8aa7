/**
 * The edges that the document names in 'Terms' of ALONG, JOINED, STROKES and RANKS, and in promises 9 to 12: a test
 * for each sentence, which is told above it. E.refused asks too that the call changes nothing.
 */
public final class EdgesOfStrokesTest extends Edges {
    private static final Edges E = new Edges();

    public static void main(String[] args) {
        alongAtJust135Degrees();
        notAlongJustBelow();
        alongJustAbove();
        productBelowZero();
        straighterAsFractionsExactly();
        straighterNotByLength();
        ofLikeOnesTheLesserLeastRoad();
        ofLikeOnesTheLesserOtherOne();
        likeOfUnlikeLengths();
        thenOfThoseWithoutBoth();
        aHighwayAndALaneAreNeverJoined();
        aHighwayAndALaneArePassedOver();
        strokeOfOneRoad();
        strokeOfAllThatAreJoined();
        strokesOfTheLastRoads();
        strokesOfWhatIsLeft();
        numberedByTheirLeastRoads();
        closedIfJoinedAtBothEndsOfEach();
        notClosedOneRoadShort();
        notClosedByALaneAndAHighway();
        notClosedAtLessThan135Degrees();
        notClosedWhereItEndsOnItself();
        twoClosedStrokes();
        lengthAndWorthTogether();
        touchesAtAnyMeeting();
        touchesNotWithoutAMeeting();
        firstRankOfLikeOnesTheLeast();
        nextRankOfThoseThatTouchAny();
        nextRankOfLikeOnesTheLeast();
        anotherNetIfNoneTouches();
        anotherNetOfLikeOnesTheLeast();
        joinedEdges();
        alongEdges();
        strokeEdges();
        strokesAsManyAsRoads();
        rankEdges();
        rankOfNone();
        E.end();
    }

    /** Two lanes from the first place to the other two. */
    private static Told fork(int... places) {
        return net(places, road(0, 1, 0, 0), road(2, 0, 0, 0));
    }

    private static void isAlong(String what, int along, int... places) {
        E.answers(what, fork(places), x -> x.along(0, 0, 1), along);
        E.answers(what + ", the other way round", fork(places), x -> x.along(0, 1, 0), along);
        E.answers(what + ": joined", fork(places), x -> x.joined(0, 0), along == 1 ? 1 : NONE);
        E.answers(what + ": joined", fork(places), x -> x.joined(0, 1), along == 1 ? 0 : NONE);
        E.answers(what + ": strokes", fork(places), x -> x.count(2), along == 1 ? 1 : 2);
    }

    // 'twice p times p is no less than u's own product times v's own: the angle ... is 135 degrees at least'
    private static void alongAtJust135Degrees() {
        isAlong("just 135 degrees", 1, 10, 10, 0, 10, 20, 20);
        isAlong("just 135 degrees", 1, 10, 10, 0, 10, 20, 0);
        isAlong("just 135 degrees", 1, 10, 10, 10, 0, 0, 20);
        isAlong("just 135 degrees, short", 1, 1, 1, 0, 1, 2, 2);
        isAlong("just 135 degrees, p is -360", 1, 6, 12, 0, 30, 30, 0);
    }

    // the same, just below: twice 329 329 is less than 241 901
    private static void notAlongJustBelow() {
        isAlong("just below, p is -329", 0, 4, 15, 0, 0, 30, 30);
        isAlong("just below, short", 0, 2, 2, 0, 2, 3, 4);
        isAlong("just below by the last step", 0, 15, 0, 0, 0, 29, 15);
    }

    // the same, just above: twice 349 349 is more than 505 481
    private static void alongJustAbove() {
        isAlong("just above, p is -349", 1, 8, 9, 0, 30, 28, 0);
        isAlong("just above by the last step", 1, 15, 0, 0, 0, 30, 14);
        isAlong("180 degrees", 1, 15, 15, 0, 0, 30, 30);
        isAlong("180 degrees, a step each", 1, 15, 15, 15, 14, 15, 16);
    }

    // 'have a product (of x, and of y, added) p below 0'
    private static void productBelowZero() {
        isAlong("p is 0: a right angle", 0, 10, 10, 0, 10, 10, 0);
        isAlong("p is 0: a right angle aslant", 0, 10, 10, 20, 20, 0, 20);
        isAlong("p above 0: just 45 degrees", 0, 10, 10, 20, 10, 20, 20);
        isAlong("p above 0: one way", 0, 10, 10, 20, 10, 30, 10);
        isAlong("p below 0, by less than 135 degrees", 0, 10, 10, 0, 10, 11, 20);
        isAlong("x alone is above 0", 1, 10, 10, 11, 0, 13, 30);
    }

    // 'if p times p by u's own product times v's own is more (as fractions, exactly)'
    private static void straighterAsFractionsExactly() {
        int[] at = xys(7, 8, 0, 0, 26, 29, 18, 21);
        // to (18, 21) 32761 / 32770, to (26, 29) 90601 / 90626: 0.999725.. and 0.999724..
        E.answers("the greater fraction, though of the greater road", net(at, road(0, 1, 0, 0),
            road(0, 2, 0, 0), road(0, 3, 0, 0)), x -> x.joined(0, 0), 2);
        E.answers("the greater fraction, of the lesser road", net(at, road(0, 1, 0, 0),
            road(0, 3, 0, 0), road(0, 2, 0, 0)), x -> x.joined(0, 0), 1);
        E.answers("the other one is left", net(at, road(0, 1, 0, 0),
            road(0, 2, 0, 0), road(0, 3, 0, 0)), x -> x.joined(0, 1), NONE);
    }

    // the same: the fraction, not p times p alone, nor the own products alone
    private static void straighterNotByLength() {
        int[] at = xys(2, 10, 0, 10, 30, 11, 3, 10);
        Told longer = net(at, road(0, 1, 0, 0), road(0, 2, 0, 0), road(0, 3, 0, 0));
        E.answers("a short one that is straight", longer, x -> x.joined(0, 0), 2);
        int[] other = xys(10, 10, 0, 10, 11, 11, 30, 11);
        Told shorter = net(other, road(0, 1, 0, 0), road(0, 2, 0, 0), road(0, 3, 0, 0));
        E.answers("a long one that is straighter", shorter, x -> x.joined(0, 0), 2);
    }

    // 'of like ones the one with the lesser least ROAD'
    private static void ofLikeOnesTheLesserLeastRoad() {
        int[] at = xys(10, 10, 20, 10, 0, 12, 0, 8);
        Told last = net(at, road(0, 2, 0, 0), road(0, 3, 0, 0), road(0, 1, 0, 0));
        E.answers("0 and 2, 1 and 2: the first", last, x -> x.joined(0, 2), 0);
        E.answers("1 is left", last, x -> x.joined(0, 1), NONE);
        Told turned = net(at, road(3, 0, 0, 0), road(2, 0, 0, 0), road(1, 0, 0, 0));
        E.answers("by numbers, not by places", turned, x -> x.joined(0, 2), 0);
        Told between = net(at, road(0, 2, 0, 0), road(0, 1, 0, 0), road(0, 3, 0, 0));
        E.answers("0 and 1, 1 and 2: the first", between, x -> x.joined(0, 1), 0);
        E.answers("2 is left", between, x -> x.joined(0, 2), NONE);
    }

    // 'of like ones the lesser other one'
    private static void ofLikeOnesTheLesserOtherOne() {
        int[] at = xys(10, 10, 20, 10, 0, 12, 0, 8);
        Told first = net(at, road(0, 1, 0, 0), road(0, 2, 0, 0), road(0, 3, 0, 0));
        E.answers("0 and 1, 0 and 2: the first", first, x -> x.joined(0, 0), 1);
        E.answers("2 is left", first, x -> x.joined(0, 2), NONE);
        Told turned = net(at, road(0, 1, 0, 0), road(0, 3, 0, 0), road(0, 2, 0, 0));
        E.answers("by numbers, not by places", turned, x -> x.joined(0, 0), 1);
    }

    // 'of like ones', where the fractions are like and the numbers in them are not
    private static void likeOfUnlikeLengths() {
        int[] at = xys(10, 10, 0, 10, 12, 10, 30, 10);
        E.answers("the nearer is the lesser", net(at, road(0, 1, 0, 0), road(0, 2, 0, 0),
            road(0, 3, 0, 0)), x -> x.joined(0, 0), 1);
        E.answers("the farther is the lesser", net(at, road(0, 1, 0, 0), road(0, 3, 0, 0),
            road(0, 2, 0, 0)), x -> x.joined(0, 0), 1);
        int[] aslant = xys(10, 10, 0, 10, 12, 11, 30, 20);
        E.answers("aslant, the nearer", net(aslant, road(0, 1, 0, 0), road(0, 2, 0, 0),
            road(0, 3, 0, 0)), x -> x.joined(0, 0), 1);
        E.answers("aslant, the farther", net(aslant, road(0, 1, 0, 0), road(0, 3, 0, 0),
            road(0, 2, 0, 0)), x -> x.joined(0, 0), 1);
    }

    // 'then of those without both of its ROADS, and so on'
    private static void thenOfThoseWithoutBoth() {
        int[] at = xys(15, 15, 0, 15, 30, 15, 0, 0, 30, 29, 15, 30, 14, 0);
        Told star = net(at, road(0, 6, 0, 0), road(0, 4, 0, 0), road(0, 2, 0, 0),
            road(0, 1, 0, 0), road(0, 3, 0, 0), road(0, 5, 0, 0));
        int[] want = {5, 4, 3, 2, 1, 0};
        for (int r = 0; r < 6; r++) {
            int road = r;
            E.answers("joined to " + r + " of six", star, x -> x.joined(0, road), want[r]);
        }
        E.answers("three pairs", star, x -> x.count(7), 3);
        E.answers("three strokes", star, x -> x.count(2), 3);
        Told odd = with(star, RoadStrokes::undo);
        E.answers("of five one is left", odd, x -> x.joined(0, 0), NONE);
        E.answers("two pairs", odd, x -> x.count(7), 2);
    }

    // 'but a HIGHWAY and a LANE are never JOINED'
    private static void aHighwayAndALaneAreNeverJoined() {
        for (int a = 0; a <= 2; a++) {
            for (int b = 0; b <= 2; b++) {
                Told line = net(xys(5, 5, 10, 5, 15, 5), road(0, 1, a, 0), road(1, 2, b, 0));
                boolean never = a + b == 2 && a != b;
                E.answers("kinds " + a + ", " + b, line, x -> x.joined(1, 0), never ? NONE : 1);
                E.answers("kinds " + a + ", " + b, line, x -> x.joined(1, 1), never ? NONE : 0);
                E.answers("along all the same", line, x -> x.along(1, 0, 1), 1);
                E.answers("pairs", line, x -> x.count(7), never ? 0 : 1);
            }
        }
    }

    // the same: such a pair, though the straightest, keeps no other one from being JOINED
    private static void aHighwayAndALaneArePassedOver() {
        int[] at = xys(10, 10, 0, 10, 20, 10, 20, 14, 0, 14);
        Told cross = net(at, road(0, 1, 2, 0), road(0, 2, 0, 0), road(0, 3, 2, 0),
            road(0, 4, 0, 0));
        E.answers("the highways", cross, x -> x.joined(0, 0), 2);
        E.answers("the lanes", cross, x -> x.joined(0, 1), 3);
        E.answers("two pairs", cross, x -> x.count(7), 2);
        Told all = with(cross, x -> {
            x.alter(0, 0, 0);
            x.alter(2, 0, 0);
        });
        E.answers("of lanes alone the straightest", all, x -> x.joined(0, 0), 1);
    }

    // 'A STROKE is a ROAD'
    private static void strokeOfOneRoad() {
        Told one = net(xys(0, 0, 0, 1), road(1, 0, 0, 0));
        int[] want = {1, 1, 1, 0, 0, 0, 1};
        for (int what = 0; what <= 6; what++) {
            int w = what;
            E.answers("stroke(0, " + what + ")", one, x -> x.stroke(0, w), want[what]);
        }
    }

    // 'and all that are JOINED to it, at a MEETING, to these, and so on'
    private static void strokeOfAllThatAreJoined() {
        Told line = x -> {
            for (int m = 0; m < 16; m++) {
                x.meeting(15, 2 * m);
            }
            // odd ones first, so that what is between comes last
            for (int r = 0; r < 15; r++) {
                int from = r < 8 ? 2 * r : 2 * (r - 8) + 1;
                x.road(from, from + 1, 1, 0);
            }
        };
        E.answers("one stroke", line, x -> x.count(2), 1);
        E.answers("of fifteen roads", line, x -> x.stroke(0, 0), 15);
        E.answers("as bits", line, x -> x.stroke(0, 6), 0x7fff);
        E.answers("fourteen pairs", line, x -> x.count(7), 14);
        E.answers("not closed", line, x -> x.stroke(0, 3), 0);
        Told parted = with(line, RoadStrokes::undo);
        E.answers("two strokes without the last", parted, x -> x.count(2), 2);
        E.answers("the lesser one", parted, x -> x.stroke(0, 6), 0x3f7f);
        E.answers("the other one", parted, x -> x.stroke(1, 6), 1 << 7);
    }

    // the same, of as many ROADS as may be
    private static void strokesOfTheLastRoads() {
        for (int s = 0; s < 8; s++) {
            int stroke = s;
            E.answers("roads of stroke " + s, Edges::grid, x -> x.stroke(stroke, 6), 7 << 3 * s);
            E.answers("length of stroke " + s, Edges::grid, x -> x.stroke(stroke, 1), 30);
            E.answers("stroke of its last road", Edges::grid, x -> x.info(3 * stroke + 2, 6), s);
        }
        E.answers("eight strokes", Edges::grid, x -> x.count(2), 8);
        E.answers("sixteen pairs", Edges::grid, x -> x.count(7), 16);
        E.answers("the last road's", Edges::grid, x -> x.joined(11, 23), 22);
        E.answers("at its end", Edges::grid, x -> x.joined(15, 23), NONE);
    }

    // the same, when ROADS are undone or altered: what was JOINED is no part of it
    private static void strokesOfWhatIsLeft() {
        int[] at = xys(0, 0, 10, 0, 20, 0, 20, 10);
        Told undone = with(net(at, road(0, 1, 0, 0), road(1, 2, 0, 0)), x -> {
            x.undo();
            x.road(2, 3, 0, 0);
        });
        E.answers("it touches no more", undone, x -> x.count(3), 2);
        E.answers("its length", undone, x -> x.stroke(0, 1), 10);
        Told altered = with(net(at, road(0, 1, 0, 0), road(1, 2, 1, 0), road(2, 3, 0, 0)),
            x -> x.alter(1, 0, 2));
        E.answers("it has one road", altered, x -> x.stroke(0, 6), 1);
        E.answers("ranks by what touches", altered, x -> x.rank(1, 0), 0);
        E.asked("cut by what touches", altered, x -> x.cut(3, 11, 1), 2);
    }

    // 'STROKES are numbered by their least ROADS, 0 on'
    private static void numberedByTheirLeastRoads() {
        Told cross = net(xys(10, 10, 0, 10, 20, 10, 10, 0, 10, 20, 20, 20),
            road(4, 5, 0, 0), road(0, 1, 0, 0), road(0, 3, 0, 0), road(0, 4, 0, 0),
            road(0, 2, 0, 0));
        int[] want = {0, 1, 2, 2, 1};
        for (int r = 0; r < 5; r++) {
            int road = r;
            E.answers("stroke of road " + r, cross, x -> x.info(road, 6), want[r]);
        }
        E.answers("three strokes", cross, x -> x.count(2), 3);
        E.answers("roads of stroke 1", cross, x -> x.stroke(1, 6), 18);
        E.answers("roads of stroke 2", cross, x -> x.stroke(2, 6), 12);
    }

    private static Told ring(int kind, int use) {
        return net(ringPlaces(), ringRoads(kind, use));
    }

    // 'It is CLOSED, if each of its ROADS is JOINED at both of its ends'
    private static void closedIfJoinedAtBothEndsOfEach() {
        E.answers("a ring at just 135 degrees", ring(0, 0), x -> x.stroke(0, 3), 1);
        E.answers("one closed", ring(0, 0), x -> x.count(5), 1);
        E.answers("eight pairs", ring(0, 0), x -> x.count(7), 8);
        Told touched = with(ring(0, 0), x -> {
            x.meeting(10, 10);
            x.road(8, 0, 0, 0);
        });
        E.answers("closed though another touches", touched, x -> x.stroke(0, 3), 1);
        E.answers("that one is not", touched, x -> x.stroke(1, 3), 0);
    }

    // the same: without one ROAD two of them are not JOINED at both ends
    private static void notClosedOneRoadShort() {
        E.answers("not closed", with(ring(0, 0), RoadStrokes::undo), x -> x.stroke(0, 3), 0);
        E.answers("none closed", with(ring(0, 0), RoadStrokes::undo), x -> x.count(5), 0);
    }

    // the same, with 'a HIGHWAY and a LANE are never JOINED'
    private static void notClosedByALaneAndAHighway() {
        Told apart = with(ring(1, 0), x -> {
            x.alter(0, 0, 0);
            x.alter(7, 0, 2);
        });
        E.answers("still one stroke", apart, x -> x.stroke(0, 0), 8);
        E.answers("not closed", apart, x -> x.stroke(0, 3), 0);
        E.answers("closed again", with(apart, x -> x.alter(7, 0, 1)), x -> x.stroke(0, 3), 1);
    }

    // the same, with 'the angle between them is 135 degrees at least'
    private static void notClosedAtLessThan135Degrees() {
        int[] at = ringPlaces();
        at[1] = 1;
        // from (10, 1) to (20, 0) and to (0, 10): p is -109, the products 101 and 181, twice p p is more
        E.answers("one corner is wider, the next is not", net(at, ringRoads(0, 0)), x -> x.joined(0, 0), 7);
        E.answers("the next one", net(at, ringRoads(0, 0)), x -> x.joined(1, 0), NONE);
        E.answers("not closed", net(at, ringRoads(0, 0)), x -> x.stroke(0, 3), 0);
    }

    // the same: a STROKE may come back to a MEETING of its own and end there
    private static void notClosedWhereItEndsOnItself() {
        Told drop = with(ring(0, 0), x -> {
            x.meeting(0, 0);
            x.road(8, 0, 0, 0);
        });
        E.answers("straight on", drop, x -> x.joined(0, 0), 8);
        E.answers("it ends there", drop, x -> x.joined(0, 7), NONE);
        E.answers("one stroke of nine", drop, x -> x.stroke(0, 0), 9);
        E.answers("not closed", drop, x -> x.stroke(0, 3), 0);
    }

    // count() 5 of more than one
    private static void twoClosedStrokes() {
        Told two = x -> {
            int[] at = xys(1, 0, 2, 0, 3, 1, 3, 2, 2, 3, 1, 3, 0, 2, 0, 1);
            for (int m = 0; m < 16; m++) {
                x.meeting(at[2 * (m % 8)] + 20 * (m / 8), at[2 * (m % 8) + 1]);
            }
            for (int r = 0; r < 16; r++) {
                int first = r / 8 * 8;
                x.road(first + r % 8, first + (r + 1) % 8, 2, 0);
            }
        };
        E.answers("two closed", two, x -> x.count(5), 2);
        E.answers("two strokes", two, x -> x.count(2), 2);
        E.answers("two nets", two, x -> x.count(3), 2);
        E.answers("of like worth the least is first", two, x -> x.stroke(1, 4), 1);
    }

    // 'LENGTH and WORTH of a STROKE are those of its ROADS together'
    private static void lengthAndWorthTogether() {
        Told line = net(xys(0, 0, 4, 0, 7, 0, 30, 0), road(0, 1, 0, 9), road(2, 1, 1, 9),
            road(2, 3, 2, 9));
        E.answers("one stroke", line, x -> x.count(2), 1);
        E.answers("length", line, x -> x.stroke(0, 1), 30);
        E.answers("worth", line, x -> x.stroke(0, 2), 40 + 60 + 483);
    }

    // 'It TOUCHES another one, if any of its MEETINGS is one of that'
    private static void touchesAtAnyMeeting() {
        int[] cross = xys(10, 10, 0, 10, 20, 10, 10, 0, 10, 20);
        E.answers("both between their ends", net(cross, road(1, 0, 0, 0), road(0, 2, 0, 0),
            road(3, 0, 0, 0), road(0, 4, 0, 0)), x -> x.count(3), 1);
        E.answers("an end and one between", net(cross, road(1, 0, 0, 0), road(0, 2, 0, 0),
            road(3, 0, 0, 0)), x -> x.count(3), 1);
        E.answers("two ends", net(cross, road(1, 0, 0, 0), road(3, 0, 0, 0)), x -> x.count(3), 1);
    }

    // the same: ROADS that cross where there is no MEETING do not
    private static void touchesNotWithoutAMeeting() {
        Told crossing = net(xys(0, 10, 20, 10, 10, 0, 10, 20), road(0, 1, 0, 0), road(2, 3, 0, 0));
        E.answers("two nets", crossing, x -> x.count(3), 2);
        E.answers("a meeting there is not theirs", with(crossing, x -> x.meeting(10, 10)), x -> x.count(3), 2);
        Told through = net(xys(0, 10, 20, 10, 10, 10, 10, 20), road(0, 1, 0, 0), road(2, 3, 0, 0));
        E.answers("a road through a meeting is not there", through, x -> x.count(3), 2);
    }

    private static void ranksAre(String what, Told told, int... strokes) {
        for (int i = 0; i < strokes.length; i++) {
            int at = i;
            E.answers(what + ": rank(" + i + ", 0)", told, x -> x.rank(at, 0), strokes[i]);
            E.answers(what + ": stroke(" + strokes[i] + ", 4)", told, x -> x.stroke(strokes[at], 4), i);
        }
        E.answers(what + ": no rank more", told, x -> x.rank(strokes.length, 0), NONE);
    }

    // 'the first is the STROKE with the greatest WORTH, of like ones the least'
    private static void firstRankOfLikeOnesTheLeast() {
        int[] at = xys(0, 0, 10, 0, 0, 20, 10, 20, 20, 10, 30, 10);
        ranksAre("all like", net(at, road(0, 1, 0, 1), road(2, 3, 0, 1), road(4, 5, 1, 0)), 0, 1, 2);
        ranksAre("one is worth less", net(at, road(0, 1, 0, 0), road(2, 3, 0, 1), road(4, 5, 1, 0)),
            1, 2, 0);
        ranksAre("one is worth more", net(at, road(0, 1, 0, 1), road(2, 3, 0, 1), road(4, 5, 1, 1)),
            2, 0, 1);
    }

    // 'then ever the one with the greatest WORTH ... of those that TOUCH any that has a RANK already'
    private static void nextRankOfThoseThatTouchAny() {
        // a path of four roads, each a stroke, worth 200, 10, 20, 100; apart from it two that are worth 140 and 100
        int[] at = xys(0, 0, 10, 0, 10, 10, 20, 10, 20, 20, 0, 20, 5, 20, 5, 30);
        Told path = net(at, road(0, 1, 1, 9), road(1, 2, 0, 0), road(2, 3, 0, 1),
            road(3, 4, 0, 9), road(6, 7, 1, 6), road(5, 6, 1, 9));
        ranksAre("as each comes to touch", path, 0, 1, 2, 3, 4, 5);
        E.answers("worth of each sheet", path, x -> x.rank(2, 1), 230);
        ranksAre("not the last rank's alone", net(xys(10, 0, 10, 10, 20, 10, 0, 0, 20, 20),
            road(0, 1, 1, 9), road(1, 2, 1, 4), road(0, 3, 0, 8), road(2, 4, 0, 1)), 0, 1, 2, 3);
    }

    // 'of like ones the least, of those that TOUCH any'
    private static void nextRankOfLikeOnesTheLeast() {
        int[] at = xys(10, 10, 20, 10, 10, 20, 20, 20, 0, 0, 0, 10);
        ranksAre("both touch", net(at, road(4, 5, 0, 2), road(1, 3, 0, 2), road(0, 2, 0, 2),
            road(0, 1, 2, 2)), 3, 1, 2, 0);
    }

    // 'if none does, of all others (that begins another NET)'
    private static void anotherNetIfNoneTouches() {
        int[] at = xys(0, 0, 10, 0, 10, 10, 20, 20, 30, 20, 30, 30, 0, 30, 5, 30);
        Told three = net(at, road(6, 7, 0, 0), road(0, 1, 0, 0), road(1, 2, 0, 9),
            road(3, 4, 0, 3), road(4, 5, 0, 4));
        ranksAre("three nets", three, 2, 1, 4, 3, 0);
        int[] nets = {2, 0, 0, 1, 1};
        for (int s = 0; s < 5; s++) {
            int stroke = s;
            E.answers("net of " + s, three, x -> x.stroke(stroke, 5), nets[s]);
        }
        E.answers("three nets", three, x -> x.count(3), 3);
        E.answers("the first net alone", net(at, road(0, 1, 0, 0)), x -> x.count(3), 1);
        E.answers("no net", net(at), x -> x.count(3), 0);
    }

    // the same: 'of like ones the least'
    private static void anotherNetOfLikeOnesTheLeast() {
        int[] at = xys(0, 0, 10, 0, 0, 10, 10, 10, 0, 20, 10, 20, 0, 30, 10, 30);
        Told four = net(at, road(0, 1, 0, 0), road(2, 3, 0, 0), road(4, 5, 0, 9),
            road(6, 7, 0, 0));
        ranksAre("the rest by numbers", four, 2, 0, 1, 3);
        E.answers("net of 3", four, x -> x.stroke(3, 5), 3);
        E.answers("nets", four, x -> x.count(3), 4);
    }

    private static Told line() {
        return net(xys(0, 0, 5, 0, 10, 0, 20, 20), road(0, 1, 0, 0), road(1, 2, 0, 0));
    }

    // Promise 9: 'The ROAD to which a ROAD is JOINED at a MEETING; NONE. BAD; NOT: the ROAD is not there'
    private static void joinedEdges() {
        E.answers("joined", line(), x -> x.joined(1, 0), 1);
        E.answers("NONE at the first one's end", line(), x -> x.joined(0, 0), NONE);
        E.answers("NONE at the last one's end", line(), x -> x.joined(2, 1), NONE);
        E.refused("NOT there", line(), x -> x.joined(2, 0), NOT);
        E.refused("NOT there", line(), x -> x.joined(0, 1), NOT);
        E.refused("NOT where no road is", line(), x -> x.joined(3, 0), NOT);
        for (int v : new int[] {-1, 4, MIN, MAX, 16}) {
            E.refused("BAD: meeting " + v, line(), x -> x.joined(v, 0), BAD);
        }
        for (int v : new int[] {-1, 2, MIN, MAX, 24}) {
            E.refused("BAD: road " + v, line(), x -> x.joined(1, v), BAD);
            E.refused("BAD ahead of NOT: road " + v, line(), x -> x.joined(3, v), BAD);
        }
        E.refused("BAD: no road at all", net(xys(1, 1)), x -> x.joined(0, 0), BAD);
    }

    // Promise 10: 'BAD; NOT: they are not both there, they are one'
    private static void alongEdges() {
        E.refused("NOT: they are one", line(), x -> x.along(1, 0, 0), NOT);
        E.refused("NOT: they are one, not there", line(), x -> x.along(3, 1, 1), NOT);
        E.refused("NOT: the first is not there", line(), x -> x.along(2, 0, 1), NOT);
        E.refused("NOT: the second is not there", line(), x -> x.along(0, 0, 1), NOT);
        E.refused("NOT: neither is there", line(), x -> x.along(3, 0, 1), NOT);
        for (int v : new int[] {-1, 4, MIN, MAX, 16}) {
            E.refused("BAD: meeting " + v, line(), x -> x.along(v, 0, 1), BAD);
            E.refused("BAD ahead of NOT: meeting " + v, line(), x -> x.along(v, 0, 0), BAD);
        }
        for (int v : new int[] {-1, 2, MIN, MAX, 24}) {
            E.refused("BAD: first road " + v, line(), x -> x.along(1, v, 1), BAD);
            E.refused("BAD: second road " + v, line(), x -> x.along(1, 0, v), BAD);
            E.refused("BAD ahead of NOT: both " + v, line(), x -> x.along(1, v, v), BAD);
            E.refused("BAD ahead of NOT: not there", line(), x -> x.along(3, 0, v), BAD);
        }
        E.refused("BAD: no road at all", net(xys(1, 1)), x -> x.along(0, 0, 0), BAD);
    }

    // Promise 11: 'How many ROADS (what = 0) ... ROADS as bits (6). BAD'
    private static void strokeEdges() {
        for (int v : new int[] {-1, 1, MIN, MAX, 24}) {
            E.refused("BAD: stroke " + v, line(), x -> x.stroke(v, 0), BAD);
            E.refused("BAD: stroke " + v, line(), x -> x.stroke(v, 6), BAD);
        }
        for (int what : new int[] {-1, 7, MIN, MAX}) {
            E.refused("BAD: what " + what, line(), x -> x.stroke(0, what), BAD);
        }
        int[] want = {2, 10, 10, 0, 0, 0, 3};
        for (int what = 0; what <= 6; what++) {
            int w = what;
            E.answers("stroke(0, " + what + ")", line(), x -> x.stroke(0, w), want[what]);
        }
        E.refused("BAD: meetings alone", net(xys(1, 1, 2, 2)), x -> x.stroke(0, 0), BAD);
    }

    // Promise 11, of as many STROKES as there may be
    private static void strokesAsManyAsRoads() {
        // road 15 is worth 58; 22 and 23 touch it at its two ends and are worth 54 each
        int[] want = {1, 54, 54, 0, 2, 0, 1 << 23};
        for (int what = 0; what <= 6; what++) {
            int w = what;
            E.answers("stroke(23, " + what + ")", Edges::fullNet, x -> x.stroke(23, w), want[what]);
        }
        E.answers("strokes", Edges::fullNet, x -> x.count(2), 24);
        E.answers("its rank is its own", Edges::fullNet, x -> x.rank(2, 0), 23);
        E.refused("stroke 24", Edges::fullNet, y -> y.stroke(24, 0), BAD);
    }

    // Promise 12: 'The STROKE of RANK i (0 to 23; what = 0), the WORTH of the SHEET of the first i and one (1) ... BAD'
    private static void rankEdges() {
        for (int v : new int[] {-1, 24, MIN, MAX}) {
            E.refused("BAD: rank " + v, line(), x -> x.rank(v, 0), BAD);
            E.refused("BAD: rank " + v, line(), x -> x.rank(v, 1), BAD);
            E.refused("BAD of a full net: rank " + v, Edges::fullNet, x -> x.rank(v, 0), BAD);
        }
        for (int what : new int[] {-1, 2, MIN, MAX}) {
            E.refused("BAD: what " + what, line(), x -> x.rank(0, what), BAD);
            E.refused("BAD ahead of NONE: what " + what, line(), x -> x.rank(23, what), BAD);
        }
        E.answers("rank 0", line(), x -> x.rank(0, 0), 0);
        E.answers("worth of the first one", line(), x -> x.rank(0, 1), 10);
        E.answers("the first of a full net", Edges::fullNet, x -> x.rank(0, 1), 58);
        E.answers("the first two", Edges::fullNet, x -> x.rank(1, 1), 58 + 54);
        E.answers("all 24", Edges::fullNet, x -> x.rank(23, 1), 872);
    }

    // Promise 12: 'NONE'
    private static void rankOfNone() {
        for (int what = 0; what <= 1; what++) {
            int w = what;
            E.answers("behind the last", line(), x -> x.rank(1, w), NONE);
            E.answers("rank 23 of one stroke", line(), x -> x.rank(23, w), NONE);
            E.answers("no strokes", Edges::nothing, x -> x.rank(0, w), NONE);
            E.answers("rank 23 of no strokes", Edges::nothing, x -> x.rank(23, w), NONE);
            E.answers("rank 22 of 23", with(Edges::fullNet, RoadStrokes::undo), x -> x.rank(22, w) >= 0 ? 1 : 0, 1);
            E.answers("rank 23 of 23", with(Edges::fullNet, RoadStrokes::undo), x -> x.rank(23, w), NONE);
        }
    }
}
