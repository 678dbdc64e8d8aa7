import java.math.BigInteger;
import java.util.Arrays;

/**
 * The edges that the document names in 'Terms' of rows and FINDINGS, and in promises 18 to 25: a test for each
 * sentence, which is told above it. E.refused, E.found and E.asked ask too that the call changes nothing.
 */
public final class EdgesOfRowsTest extends Edges {
    private static final Edges E = new Edges();

    public static void main(String[] args) {
        rowsAreZeroToThree();
        formsAreZeroToTwo();
        itemsAreZeroToSixty();
        itemsAreZeroAtFirst();
        findingsAnswerTenLess();
        sheetAnew();
        sheetBadThenSize();
        loseHowManyItHad();
        loseBadThenNull();
        putTheLowestBitsOfBytes();
        putTheLowestBitsOfShorts();
        putTheLowestBitsOfInts();
        putOneItemAlone();
        putBadThenNullThenCastThenIndex();
        getTheLeastInt();
        getBadThenNullThenCastThenIndex();
        copyOfAllAndOfNone();
        copyIntoItselfAsTheyWere();
        copyOfEachForm();
        copyBadThenNull();
        copyNullThenStoreThenIndex();
        copyIndexBelowZero();
        copyIndexNotSoMany();
        writeAsManyAsThereAreItems();
        writeAsManyAsThereAreStrokes();
        writeOfEachForm();
        writeBadThenNull();
        countEdges();
        countOfNone();
        countOfMost();
        countTheLatestFinding();
        countKeepsTheFinding();
        digestOfNone();
        digestOfOneMeeting();
        digestByItsCalls();
        digestWraps();
        digestOfNetAlone();
        E.end();
    }

    private static Told threeShorts() {
        return row(1, 1, 5, -6, 7);
    }

    private static void items(String what, Told told, int s, int form, int... want) {
        for (int i = 0; i < want.length; i++) {
            int at = i;
            E.asked(what + ": item " + i, told, x -> x.get(s, form, at), want[i]);
        }
        E.answers(what + ": how many", told, x -> x.lose(s), want.length);
    }

    // 'SHEETS 0 .. 3, of another kind, are LOST (at first) or a row'
    private static void rowsAreZeroToThree() {
        for (int row = 0; row <= 3; row++) {
            int s = row;
            E.answers("sheet(" + s + ")", Edges::nothing, x -> x.sheet(s, 1, 2), 2);
            E.answers("its own alone", x -> x.sheet(s, 1, 2), x -> x.lose((s + 1) % 4), -11);
            E.answers("lose(" + s + ")", row(s, 1, 4, 4), x -> x.lose(s), 2);
            E.answers("put(" + s + ")", row(s, 1, 4, 4), x -> x.put(s, 1, 1, 9), 1);
            E.answers("get(" + s + ")", row(s, 1, 4, 8), x -> x.get(s, 1, 1), 8);
            E.answers("copy(" + s + ")", row(s, 1, 4, 4), x -> x.copy(s, 0, s, 1, 1), 1);
            E.answers("write(" + s + ")", with(Edges::fullNet, row(s, 1, 4, 4)), x -> x.write(s), 2);
            E.answers("read(" + s + ")", with(Edges::sixteenMeetings, row(s, 1, 0, 1, 0, 0)), x -> x.read(s), 1);
        }
        for (int s : new int[] {-1, 4, MIN, MAX}) {
            E.refused("sheet(" + s + ")", threeShorts(), x -> x.sheet(s, 1, 2), BAD);
            E.refused("lose(" + s + ")", threeShorts(), x -> x.lose(s), BAD);
            E.refused("put(" + s + ")", threeShorts(), x -> x.put(s, 1, 0, 1), BAD);
            E.refused("get(" + s + ")", threeShorts(), x -> x.get(s, 1, 0), MIN);
            E.refused("copy from " + s, threeShorts(), x -> x.copy(s, 0, 1, 1, 1), BAD);
            E.refused("copy to " + s, threeShorts(), x -> x.copy(1, 0, s, 1, 1), BAD);
            E.refused("write(" + s + ")", with(Edges::fullNet, threeShorts()), x -> x.write(s), BAD);
            E.refused("read(" + s + ")", with(Edges::fullNet, threeShorts()), x -> x.read(s), BAD);
        }
    }

    // 'a FORM: 0 bytes, 1 shorts, 2 ints'
    private static void formsAreZeroToTwo() {
        for (int f = 0; f <= 2; f++) {
            int form = f;
            E.answers("sheet of form " + form, Edges::nothing, x -> x.sheet(0, form, 1), 1);
            E.answers("put of form " + form, x -> x.sheet(0, form, 1), x -> x.put(0, form, 0, 1), 1);
            E.answers("get of form " + form, x -> x.sheet(0, form, 1), x -> x.get(0, form, 0), 0);
        }
        for (int form : new int[] {-1, 3, MIN, MAX}) {
            E.refused("sheet of form " + form, threeShorts(), x -> x.sheet(1, form, 1), BAD);
            E.refused("put of form " + form, threeShorts(), x -> x.put(1, form, 0, 1), BAD);
            E.refused("get of form " + form, threeShorts(), x -> x.get(1, form, 0), MIN);
        }
    }

    // 'of 0 to 60 items'
    private static void itemsAreZeroToSixty() {
        for (int f = 0; f <= 2; f++) {
            int form = f;
            E.answers("0", Edges::nothing, x -> x.sheet(2, form, 0), 0);
            E.answers("60", Edges::nothing, x -> x.sheet(2, form, 60), 60);
            E.answers("the last of 60", x -> x.sheet(2, form, 60), x -> x.put(2, form, 59, 8), 1);
            E.found("behind it", x -> x.sheet(2, form, 60), x -> x.put(2, form, 60, 8), INDEX);
            E.found("the first of 0", x -> x.sheet(2, form, 0), x -> x.put(2, form, 0, 8), INDEX);
            E.refused("61", threeShorts(), x -> x.sheet(1, form, 61), BAD);
            E.refused("the greatest int", threeShorts(), x -> x.sheet(1, form, MAX), BAD);
        }
    }

    // '(0 at first)'
    private static void itemsAreZeroAtFirst() {
        RoadStrokes x = new RoadStrokes();
        x.sheet(0, 2, 60);
        for (int i = 0; i < 60; i++) {
            E.due("item " + i, x.get(0, 2, i), 0);
            x.put(0, 2, i, MAX - i);
        }
        x.sheet(0, 2, 60);
        for (int i = 0; i < 60; i++) {
            E.due("item " + i + " anew", x.get(0, 2, i), 0);
        }
        items("anew when it was lost", with(threeShorts(), y -> {
            y.lose(1);
            y.sheet(1, 1, 3);
        }), 1, 1, 0, 0, 0);
        items("longer anew", with(threeShorts(), y -> {
            y.sheet(1, 1, 1);
            y.sheet(1, 1, 3);
        }), 1, 1, 0, 0, 0);
    }

    // 'FINDINGS (answers -10 less the number ...): 1 NULL ...; 2 INDEX ...; 3 CAST ...; 4 STORE ...; 5 SIZE ...'
    private static void findingsAnswerTenLess() {
        Told two = with(threeShorts(), row(2, 2, 1));
        E.answers("1 NULL: it is LOST", two, x -> x.lose(0), -11);
        E.answers("2 INDEX: there is no such item", two, x -> x.put(1, 1, 3, 0), -12);
        E.answers("3 CAST: it has another FORM", two, x -> x.put(1, 2, 0, 0), -13);
        E.answers("4 STORE: unlike FORMS", two, x -> x.copy(1, 0, 2, 0, 1), -14);
        E.answers("5 SIZE: below 0", two, x -> x.sheet(1, 1, -1), -15);
        E.found("NULL", two, x -> x.lose(0), NULL);
        E.found("INDEX", two, x -> x.put(1, 1, 3, 0), INDEX);
        E.found("CAST", two, x -> x.put(1, 2, 0, 0), CAST);
        E.found("STORE", two, x -> x.copy(1, 0, 2, 0, 1), STORE);
        E.found("SIZE", two, x -> x.sheet(1, 1, -1), SIZE);
    }

    // Promise 18: 'A row of a FORM with n items is there anew: n'
    private static void sheetAnew() {
        items("in a LOST one's stead", x -> x.sheet(1, 0, 2), 1, 0, 0, 0);
        items("in another one's stead", with(threeShorts(), x -> x.sheet(1, 1, 2)), 1, 1, 0, 0);
        items("of another form", with(threeShorts(), x -> x.sheet(1, 2, 4)), 1, 2, 0, 0, 0, 0);
        items("of 0 items", with(threeShorts(), x -> x.sheet(1, 1, 0)), 1, 1);
        E.found("its old form is no more", with(threeShorts(), x -> x.sheet(1, 2, 3)), x -> x.put(1, 1, 0, 1), CAST);
        E.found("its old items are no more", with(threeShorts(), x -> x.sheet(1, 1, 2)), x -> x.put(1, 1, 2, 1), INDEX);
        E.answers("no FINDING by that", x -> x.sheet(1, 1, 60), x -> x.count(8), 0);
    }

    // Promise 18: 'BAD: which, FORM, above 60; SIZE'
    private static void sheetBadThenSize() {
        E.found("-1", threeShorts(), x -> x.sheet(1, 1, -1), SIZE);
        E.found("the least int", threeShorts(), x -> x.sheet(1, 2, MIN), SIZE);
        E.found("a LOST one stays so", threeShorts(), x -> x.sheet(0, 1, -1), SIZE);
        E.refused("BAD ahead of SIZE: which", threeShorts(), x -> x.sheet(4, 1, -1), BAD);
        E.refused("BAD ahead of SIZE: which", threeShorts(), x -> x.sheet(-1, 1, -1), BAD);
        E.refused("BAD ahead of SIZE: FORM", threeShorts(), x -> x.sheet(1, 3, -1), BAD);
        E.refused("BAD ahead of SIZE: FORM", threeShorts(), x -> x.sheet(1, -1, MIN), BAD);
        E.refused("above 60, of a LOST one", threeShorts(), x -> x.sheet(0, 1, 61), BAD);
    }

    // Promise 19: 'It is LOST: how many items it had'
    private static void loseHowManyItHad() {
        E.answers("0", x -> x.sheet(3, 0, 0), x -> x.lose(3), 0);
        E.answers("1", x -> x.sheet(3, 1, 1), x -> x.lose(3), 1);
        E.answers("60", x -> x.sheet(3, 2, 60), x -> x.lose(3), 60);
        E.found("then it is LOST", with(threeShorts(), x -> x.lose(1)), x -> x.get(1, 1, 0), NULL, MIN);
        E.answers("no FINDING by that", with(threeShorts(), x -> x.lose(1)), x -> x.count(8), 0);
        items("the others stay", with(with(threeShorts(), row(2, 0, 9)), x -> x.lose(1)), 2, 0, 9);
    }

    // Promise 19: 'BAD; NULL'
    private static void loseBadThenNull() {
        E.found("a second time", with(threeShorts(), x -> x.lose(1)), x -> x.lose(1), NULL);
        E.found("a second time, of 0 items", with(row(1, 0), x -> x.lose(1)), x -> x.lose(1), NULL);
        E.refused("BAD", Edges::nothing, x -> x.lose(4), BAD);
        E.refused("BAD", Edges::nothing, x -> x.lose(-1), BAD);
    }

    private static void becomes(int form, int... pairs) {
        for (int i = 0; i < pairs.length; i += 2) {
            int v = pairs[i];
            E.answers("put " + v, x -> x.sheet(0, form, 1), x -> x.put(0, form, 0, v), 1);
            E.answers("it becomes", row(0, form, v), x -> x.get(0, form, 0), pairs[i + 1]);
        }
    }

    // Promise 20: 'becomes v (the lowest bits that it has)', of bytes
    private static void putTheLowestBitsOfBytes() {
        becomes(0, 0, 0, 1, 1, -1, -1, 127, 127, 128, -128, -128, -128, -129, 127, 255, -1, 256, 0, 257, 1, -256, 0,
            32768, 0, 65535, -1, MAX, -1, MIN, 0, MIN + 5, 5);
    }

    // the same, of shorts
    private static void putTheLowestBitsOfShorts() {
        becomes(1, 0, 0, 127, 127, 128, 128, 256, 256, 32767, 32767, 32768, -32768, -32768, -32768, -32769, 32767,
            65535, -1, 65536, 0, 65537, 1, -65536, 0, MAX, -1, MIN, 0, MIN + 5, 5);
    }

    // the same, of ints
    private static void putTheLowestBitsOfInts() {
        becomes(2, 0, 0, 128, 128, 256, 256, 32768, 32768, 65536, 65536, -1, -1, MAX, MAX, MIN, MIN, MIN + 1, MIN + 1);
    }

    // Promise 20: 'Item i ... becomes v: 1'
    private static void putOneItemAlone() {
        items("the first", with(threeShorts(), x -> x.put(1, 1, 0, 9)), 1, 1, 9, -6, 7);
        items("the last", with(threeShorts(), x -> x.put(1, 1, 2, 9)), 1, 1, 5, -6, 9);
        E.answers("no FINDING by that", with(threeShorts(), x -> x.put(1, 1, 2, 9)), x -> x.count(8), 0);
    }

    // Promise 20: 'BAD; NULL; CAST; INDEX'
    private static void putBadThenNullThenCastThenIndex() {
        for (int i : new int[] {-1, 3, MIN, MAX, 60}) {
            E.found("INDEX " + i, threeShorts(), x -> x.put(1, 1, i, 9), INDEX);
            E.found("CAST ahead of INDEX " + i, threeShorts(), x -> x.put(1, 0, i, 9), CAST);
            E.found("NULL ahead of INDEX " + i, threeShorts(), x -> x.put(0, 1, i, 9), NULL);
            E.refused("BAD ahead of INDEX " + i + ": which", threeShorts(), x -> x.put(4, 1, i, 9), BAD);
            E.refused("BAD ahead of INDEX " + i + ": FORM", threeShorts(), x -> x.put(1, 3, i, 9), BAD);
        }
        E.refused("BAD ahead of NULL: FORM", threeShorts(), x -> x.put(0, 3, 0, 9), BAD);
        E.refused("BAD ahead of NULL: FORM", threeShorts(), x -> x.put(0, -1, 0, 9), BAD);
        for (int row = 0; row <= 2; row++) {
            for (int as = 0; as <= 2; as++) {
                int form = as;
                if (row != as) {
                    E.found("CAST of " + row + " as " + as, row(2, row, 1), x -> x.put(2, form, 0, 9), CAST);
                    E.found("of 0 items too", row(2, row), x -> x.put(2, form, 0, 9), CAST);
                }
            }
        }
    }

    // Promise 21: 'BAD: the least int; so are NULL, CAST, INDEX (count() 8 tells)'
    private static void getTheLeastInt() {
        E.refused("BAD", threeShorts(), x -> x.get(1, 3, 0), MIN);
        E.found("NULL", threeShorts(), x -> x.get(0, 1, 0), NULL, MIN);
        E.found("CAST", threeShorts(), x -> x.get(1, 2, 0), CAST, MIN);
        E.found("INDEX", threeShorts(), x -> x.get(1, 1, 3), INDEX, MIN);
        E.asked("an item may be that too", row(1, 2, MIN), x -> x.get(1, 2, 0), MIN);
        E.answers("count(8) tells", with(row(1, 2, MIN), x -> x.get(1, 2, 0)), x -> x.count(8), 0);
    }

    // Promise 21: 'BAD ...; so are NULL, CAST, INDEX', in that order
    private static void getBadThenNullThenCastThenIndex() {
        for (int i : new int[] {-1, 3, MIN, MAX, 60}) {
            E.found("INDEX " + i, threeShorts(), x -> x.get(1, 1, i), INDEX, MIN);
            E.found("CAST ahead of INDEX " + i, threeShorts(), x -> x.get(1, 0, i), CAST, MIN);
            E.found("NULL ahead of INDEX " + i, threeShorts(), x -> x.get(0, 1, i), NULL, MIN);
            E.refused("BAD ahead of INDEX " + i + ": which", threeShorts(), x -> x.get(4, 1, i), MIN);
            E.refused("BAD ahead of INDEX " + i + ": FORM", threeShorts(), x -> x.get(1, 3, i), MIN);
        }
        E.refused("BAD ahead of NULL: FORM", threeShorts(), x -> x.get(0, 3, 0), MIN);
        E.refused("BAD ahead of NULL: FORM", threeShorts(), x -> x.get(0, -1, 0), MIN);
        for (int row = 0; row <= 2; row++) {
            for (int as = 0; as <= 2; as++) {
                int form = as;
                if (row != as) {
                    E.found("CAST of " + row + " as " + as, row(2, row, 1), x -> x.get(2, form, 0), CAST, MIN);
                }
            }
        }
        E.found("of 0 items", row(2, 0), x -> x.get(2, 0, 0), INDEX, MIN);
        E.asked("the first", threeShorts(), x -> x.get(1, 1, 0), 5);
        E.asked("the last", threeShorts(), x -> x.get(1, 1, 2), 7);
    }

    private static Told twoRows() {
        return with(row(0, 0, 1, 2, 3, 4, 5), row(3, 0, 10, 20, 30));
    }

    private static Told copied(int s, int i, int t, int j, int n) {
        return with(twoRows(), x -> E.due("copy", x.copy(s, i, t, j, n), 1));
    }

    // Promise 22: 'n items of row s, from i on, come to row t, from j on: 1'
    private static void copyOfAllAndOfNone() {
        items("all of a row", copied(3, 0, 0, 0, 3), 0, 0, 10, 20, 30, 4, 5);
        items("to its end", copied(3, 0, 0, 2, 3), 0, 0, 1, 2, 10, 20, 30);
        items("a row full", copied(0, 2, 3, 0, 3), 3, 0, 3, 4, 5);
        items("the last one", copied(0, 4, 3, 2, 1), 3, 0, 10, 20, 5);
        items("the source stays", copied(0, 4, 3, 2, 1), 0, 0, 1, 2, 3, 4, 5);
        E.asked("none, at the beginning", twoRows(), x -> x.copy(0, 0, 3, 0, 0), 1);
        E.asked("none, behind the last of both", twoRows(), x -> x.copy(0, 5, 3, 3, 0), 1);
        E.asked("none of 0 items", with(row(1, 2), row(2, 2)), x -> x.copy(1, 0, 2, 0, 0), 1);
        RoadStrokes x = new RoadStrokes();
        x.sheet(0, 1, 60);
        x.sheet(1, 1, 60);
        for (int i = 0; i < 60; i++) {
            x.put(0, 1, i, 1000 + i);
        }
        E.due("sixty", x.copy(0, 0, 1, 0, 60), 1);
        for (int i = 0; i < 60; i++) {
            E.due("item " + i + " of sixty", x.get(1, 1, i), 1000 + i);
        }
    }

    // Promise 22: '(perhaps s, as they were)'
    private static void copyIntoItselfAsTheyWere() {
        items("up by one", copied(0, 0, 0, 1, 4), 0, 0, 1, 1, 2, 3, 4);
        items("down by one", copied(0, 1, 0, 0, 4), 0, 0, 2, 3, 4, 5, 5);
        items("up by two", copied(0, 0, 0, 2, 3), 0, 0, 1, 2, 1, 2, 3);
        items("to where they are", copied(0, 0, 0, 0, 5), 0, 0, 1, 2, 3, 4, 5);
        items("apart", copied(0, 3, 0, 0, 2), 0, 0, 4, 5, 3, 4, 5);
    }

    // Promise 22, of each FORM
    private static void copyOfEachForm() {
        int[] least = {-128, -32768, MIN};
        for (int f = 0; f <= 2; f++) {
            int form = f;
            items("form " + f, with(with(row(1, form, least[f], 3), row(2, form, 0, 0)),
                x -> x.copy(1, 0, 2, 0, 2)), 2, form, least[f], 3);
        }
    }

    // Promise 22: 'BAD: which; NULL: s, t'
    private static void copyBadThenNull() {
        E.found("s is LOST", twoRows(), x -> x.copy(1, 0, 3, 0, 1), NULL);
        E.found("t is LOST", twoRows(), x -> x.copy(0, 0, 1, 0, 1), NULL);
        E.found("both are", twoRows(), x -> x.copy(1, 0, 2, 0, 1), NULL);
        E.found("one that is both", twoRows(), x -> x.copy(1, 0, 1, 0, 0), NULL);
        for (int v : new int[] {-1, 4, MIN, MAX}) {
            E.refused("s is " + v, twoRows(), x -> x.copy(v, 0, 3, 0, 1), BAD);
            E.refused("t is " + v, twoRows(), x -> x.copy(0, 0, v, 0, 1), BAD);
            E.refused("BAD ahead of NULL, s is " + v, twoRows(), x -> x.copy(v, 0, 1, 0, 1), BAD);
            E.refused("BAD ahead of NULL, t is " + v, twoRows(), x -> x.copy(1, 0, v, 0, 1), BAD);
            E.refused("BAD ahead of INDEX, t is " + v, twoRows(), x -> x.copy(0, -1, v, 0, -1), BAD);
        }
    }

    // Promise 22: 'NULL: s, t; STORE; INDEX'
    private static void copyNullThenStoreThenIndex() {
        for (int from = 0; from <= 2; from++) {
            for (int to = 0; to <= 2; to++) {
                Told two = with(row(1, from, 1, 2), row(2, to, 3, 4));
                if (from != to) {
                    E.found("STORE of " + from + " to " + to, two, x -> x.copy(1, 0, 2, 0, 1), STORE);
                    E.found("STORE of no items", two, x -> x.copy(1, 0, 2, 0, 0), STORE);
                    E.found("STORE ahead of INDEX", two, x -> x.copy(1, -1, 2, 3, 61), STORE);
                    E.found("STORE ahead of INDEX", two, x -> x.copy(1, 0, 2, 0, -1), STORE);
                    E.found("NULL ahead of STORE, INDEX", two, x -> x.copy(0, -1, 2, 3, 61), NULL);
                    E.found("NULL ahead of STORE, INDEX", two, x -> x.copy(1, -1, 0, 3, 61), NULL);
                }
            }
        }
        E.found("STORE between rows of 0 items", with(row(1, 0), row(2, 1)), x -> x.copy(1, 0, 2, 0, 0), STORE);
    }

    // Promise 22: 'INDEX: below 0'
    private static void copyIndexBelowZero() {
        for (int v : new int[] {-1, MIN}) {
            E.found("i is " + v, twoRows(), x -> x.copy(0, v, 3, 0, 1), INDEX);
            E.found("j is " + v, twoRows(), x -> x.copy(0, 0, 3, v, 1), INDEX);
            E.found("n is " + v, twoRows(), x -> x.copy(0, 0, 3, 0, v), INDEX);
            E.found("i is " + v + ", of none", twoRows(), x -> x.copy(0, v, 3, 0, 0), INDEX);
            E.found("j is " + v + ", of none", twoRows(), x -> x.copy(0, 0, 3, v, 0), INDEX);
            E.found("n is " + v + ", at the end", twoRows(), x -> x.copy(0, 5, 3, 3, v), INDEX);
            E.found("all are", twoRows(), x -> x.copy(0, v, 3, v, v), INDEX);
        }
    }

    // Promise 22: 'INDEX: ... not so many'
    private static void copyIndexNotSoMany() {
        E.found("of s", twoRows(), x -> x.copy(0, 3, 3, 0, 3), INDEX);
        E.found("of t", twoRows(), x -> x.copy(0, 0, 3, 1, 3), INDEX);
        E.found("of t, all", twoRows(), x -> x.copy(0, 0, 3, 0, 4), INDEX);
        E.found("of s, all", twoRows(), x -> x.copy(3, 0, 0, 0, 4), INDEX);
        E.found("from behind the last of s", twoRows(), x -> x.copy(0, 5, 3, 0, 1), INDEX);
        E.found("none, from two behind it", twoRows(), x -> x.copy(0, 6, 3, 0, 0), INDEX);
        E.found("to behind the last of t", twoRows(), x -> x.copy(0, 0, 3, 3, 1), INDEX);
        E.found("none, to two behind it", twoRows(), x -> x.copy(0, 0, 3, 4, 0), INDEX);
        E.found("61 items", twoRows(), x -> x.copy(0, 0, 3, 0, 61), INDEX);
        E.found("sums that wrap, i", twoRows(), x -> x.copy(0, MAX, 3, 0, 2), INDEX);
        E.found("sums that wrap, j", twoRows(), x -> x.copy(0, 0, 3, MAX, 2), INDEX);
        E.found("sums that wrap, n", twoRows(), x -> x.copy(0, 1, 3, 1, MAX), INDEX);
        E.found("sums that wrap, all", twoRows(), x -> x.copy(0, MAX, 3, MAX, MAX), INDEX);
        E.found("none at the greatest int", twoRows(), x -> x.copy(0, MAX, 3, 0, 0), INDEX);
        E.found("in one row", twoRows(), x -> x.copy(0, 0, 0, 1, 5), INDEX);
    }

    private static Told fourStrokes() {
        return net(xys(0, 0, 10, 0, 10, 10, 20, 20, 30, 20, 30, 30), road(0, 1, 0, 0),
            road(1, 2, 0, 4), road(3, 4, 1, 1), road(4, 5, 0, 0));
    }

    private static Told written(Told net, int form, int... items) {
        return with(with(net, row(0, form, items)), x -> x.write(0));
    }

    // Promise 23: 'STROKES by RANKS come to a row from item 0 on, as many as there are items'
    private static void writeAsManyAsThereAreItems() {
        int[] want = {1, 0, 2, 3};
        for (int n = 0; n <= 4; n++) {
            int[] items = new int[n];
            Arrays.fill(items, 99);
            E.answers("items " + n, with(fourStrokes(), row(0, 0, items)), x -> x.write(0), n);
            items("items " + n, written(fourStrokes(), 0, items), 0, 0, Arrays.copyOf(want, n));
        }
    }

    // Promise 23: '... and STROKES: how many'
    private static void writeAsManyAsThereAreStrokes() {
        E.answers("four of five", with(fourStrokes(), row(0, 0, 9, 9, 9, 9, 9)), x -> x.write(0), 4);
        items("the fifth stays", written(fourStrokes(), 0, 9, 9, 9, 9, 9), 0, 0, 1, 0, 2, 3, 9);
        E.asked("no strokes", with(Edges::sixteenMeetings, row(0, 0, 9, 9)), x -> x.write(0), 0);
        E.answers("24 of 60", with(Edges::fullNet, x -> x.sheet(0, 2, 60)), x -> x.write(0), 24);
        E.answers("24 of 24", with(Edges::fullNet, x -> x.sheet(0, 2, 24)), x -> x.write(0), 24);
        E.answers("23 of 23", with(Edges::fullNet, x -> x.sheet(0, 2, 23)), x -> x.write(0), 23);
        RoadStrokes x = made(with(Edges::fullNet, y -> y.sheet(0, 1, 25)));
        x.write(0);
        for (int i = 0; i < 24; i++) {
            E.due("item " + i + " of 24", x.get(0, 1, i), x.rank(i, 0));
        }
        E.due("the item behind", x.get(0, 1, 24), 0);
    }

    // Promise 23, of each FORM
    private static void writeOfEachForm() {
        for (int form = 0; form <= 2; form++) {
            items("form " + form, written(fourStrokes(), form, 7, 7, 7), 0, form, 1, 0, 2);
        }
    }

    // Promise 23: 'BAD; NULL'
    private static void writeBadThenNull() {
        E.found("a LOST row", fourStrokes(), x -> x.write(0), NULL);
        E.found("a LOST row, no strokes", Edges::nothing, x -> x.write(3), NULL);
        for (int s : new int[] {-1, 4, MIN, MAX}) {
            E.refused("write(" + s + ")", fourStrokes(), x -> x.write(s), BAD);
        }
    }

    // Promise 24: '0 MEETINGS ... 8 the number of the latest FINDING ... BAD'
    private static void countEdges() {
        for (int what : new int[] {-1, 9, MIN, MAX}) {
            E.refused("count(" + what + ")", fourStrokes(), x -> x.count(what), BAD);
            E.refused("count(" + what + ") of none", Edges::nothing, x -> x.count(what), BAD);
        }
        int[] want = {6, 4, 4, 2, 40, 0, 110, 0, 0};
        for (int what = 0; what <= 8; what++) {
            int w = what;
            E.asked("count(" + what + ")", fourStrokes(), x -> x.count(w), want[what]);
        }
    }

    // Promise 24, of MEETINGS without ROADS, and of all undone
    private static void countOfNone() {
        for (int what = 1; what <= 8; what++) {
            int w = what;
            E.asked("count(" + what + ")", Edges::sixteenMeetings, x -> x.count(w), 0);
        }
        for (int what = 0; what <= 8; what++) {
            int w = what;
            E.asked("count(" + what + ") of all undone", with(fourStrokes(), x -> {
                for (int i = 0; i < 10; i++) {
                    x.undo();
                }
            }), x -> x.count(w), 0);
        }
    }

    // Promise 24, of as many as may be
    private static void countOfMost() {
        int[] want = {16, 24, 24, 1, 872, 0, 872, 0, 0};
        Told ring = net(ringPlaces(), ringRoads(2, 9));
        int[] wantOfRing = {8, 8, 1, 1, 120, 1, 2520, 8, 0};
        for (int what = 0; what <= 8; what++) {
            int w = what;
            E.asked("count(" + what + ") of a full net", Edges::fullNet, x -> x.count(w), want[what]);
            E.asked("count(" + what + ") of a ring", ring, x -> x.count(w), wantOfRing[what]);
        }
    }

    // Promise 24: '8 the number of the latest FINDING (0 before any)'
    private static void countTheLatestFinding() {
        RoadStrokes x = made(with(threeShorts(), row(2, 2, 1)));
        E.due("before any", x.count(8), 0);
        x.lose(0);
        E.due("NULL", x.count(8), 1);
        x.get(1, 1, 3);
        E.due("INDEX", x.count(8), 2);
        x.put(1, 0, 0, 0);
        E.due("CAST", x.count(8), 3);
        x.copy(1, 0, 2, 0, 0);
        E.due("STORE", x.count(8), 4);
        x.sheet(1, 1, -1);
        E.due("SIZE", x.count(8), 5);
        x.write(0);
        E.due("NULL again", x.count(8), 1);
    }

    // the same: calls that are no FINDING leave it, refused or not
    private static void countKeepsTheFinding() {
        RoadStrokes x = made(with(fourStrokes(), threeShorts()));
        x.get(1, 1, 3);
        long sum = x.meeting(31, 0) + x.meeting(1, 1) + x.road(0, 0, 0, 0) + x.road(0, 2, 0, 0)
            + x.alter(0, 1, 9) + x.at(0, 3) + x.info(0, 7) + x.joined(5, 0) + x.along(0, 0, 0) + x.stroke(0, 1) + x.rank(23, 0) + x.far(0, 0, 1)
            + x.cut(0, 0, 0) + x.bridges(0) + x.detour(0) + x.useful(0) + x.sheet(2, 0, 3) + x.put(2, 0, 0, 1)
            + x.copy(2, 0, 2, 1, 1) + x.write(2) + x.lose(2) + x.sheet(4, 0, 0) + x.get(1, 1, 0) + x.get(9, 9, 9)
            + x.digest() + x.count(9) + x.undo() + x.read(1);
        E.due("INDEX still" + (sum == 0 ? "!" : ""), x.count(8), 2);
    }

    private static long folded(int... values) {
        long h = 17;
        for (int v : values) {
            h = 31 * h + v;
        }
        return h;
    }

    // Promise 25: 'far(n, 0, 1) (BAD, if there are none), far(n, 0, the last MEETING)', of none
    private static void digestOfNone() {
        E.answers("of a new object", Edges::nothing, RoadStrokes::digest, folded(0, 0, 0, 0, 0, 0, 0, 0,
            0, 0, 0, 0, -1, -2, -2, -1, -1));
    }

    // the same, of one MEETING, which is the first and the last, and of two
    private static void digestOfOneMeeting() {
        E.answers("of one", net(xys(30, 0)), RoadStrokes::digest, folded(1, 0, 0, 0, 0, 0, 0, 0,
            30, 0, 0, 0, 0, 0, 0, -1, -2, 0, -1, -1));
        E.answers("of two", net(xys(30, 0, 0, 30)), RoadStrokes::digest, folded(2, 0, 0, 0, 0, 0, 0, 0,
            30, 0, 0, 0, 30, 0, 0, 0, 0, 0, -1, -1, -1, -1, -1));
    }

    /** The sum by calls of the face, kept whole and cut to 64 bits at the end alone. */
    private static final class Sum {
        private BigInteger h = BigInteger.valueOf(17);

        void add(long v) {
            h = h.multiply(BigInteger.valueOf(31)).add(BigInteger.valueOf(v));
        }

        /** Each part asks an object of its own, since an object is used for 512 calls at most. */
        static Sum of(Told told) {
            Sum sum = new Sum();
            sum.addMeetings(made(told));
            sum.addRoads(made(told));
            sum.addStrokes(made(told));
            sum.addSheets(made(told));
            return sum;
        }

        private void addMeetings(RoadStrokes x) {
            for (int what = 0; what <= 7; what++) {
                add(x.count(what));
            }
            for (int m = 0; m < x.count(0); m++) {
                for (int what = 0; what <= 2; what++) {
                    add(x.at(m, what));
                }
            }
        }

        private void addRoads(RoadStrokes x) {
            for (int r = 0; r < x.count(1); r++) {
                for (int what = 0; what <= 6; what++) {
                    add(x.info(r, what));
                }
                add(x.joined(x.info(r, 0), r));
                add(x.joined(x.info(r, 1), r));
                add(x.detour(r));
            }
        }

        private void addStrokes(RoadStrokes x) {
            for (int s = 0; s < x.count(2); s++) {
                for (int what = 0; what <= 6; what++) {
                    add(x.stroke(s, what));
                }
                add(x.rank(s, 0));
                add(x.rank(s, 1));
            }
        }

        private void addSheets(RoadStrokes x) {
            int last = x.count(0) - 1;
            for (int n = 0; n <= x.count(2); n++) {
                add(x.bridges(n));
                for (int what = 0; what <= 3; what++) {
                    add(x.cut(n, 40, what));
                }
                add(x.far(n, 0, 1));
                add(x.far(n, 0, last));
            }
            add(x.useful(0));
            add(x.useful(1));
        }
    }

    /** A lane at a highway's end; it is worth 39 or 40, so that 'cut(n, 40, 0 to 3)' tells them apart. */
    private static Told deadEnd(int length, int use) {
        return net(xys(0, 0, 10, 0, 10, length), road(0, 1, 2, 9), road(1, 2, 0, use));
    }

    // Promise 25: 'h is 17; h becomes 31 h and each of: ...', of nets that hold the edges of each
    private static void digestByItsCalls() {
        Told[] nets = {Edges::nothing, Edges::sixteenMeetings, Edges::fullNet, fourStrokes(),
            net(ringPlaces(), ringRoads(2, 9)), with(fourStrokes(), RoadStrokes::undo),
            with(Edges::fullNet, x -> x.alter(23, 0, 2)), with(fourStrokes(), x -> x.alter(2, 1, 0)),
            Edges::grid, deadEnd(13, 2), deadEnd(10, 3), deadEnd(20, 1)};
        for (int i = 0; i < nets.length; i++) {
            long want = Sum.of(nets[i]).h.longValue();
            E.answers("digest of net " + i, nets[i], RoadStrokes::digest, want);
            E.answers("digest of net " + i + ", asked again", with(nets[i], RoadStrokes::digest),
                RoadStrokes::digest, want);
        }
    }

    // Promise 25: 'as longs that wrap'
    private static void digestWraps() {
        BigInteger whole = Sum.of(Edges::fullNet).h;
        E.due("far above what a long holds", whole.bitLength() > 1000 ? 1 : 0, 1);
        E.answers("its lowest 64 bits", Edges::fullNet, RoadStrokes::digest, whole.longValue());
        BigInteger least = Sum.of(Edges::nothing).h;
        E.due("17 values pass a long too", least.bitLength() > 64 ? 1 : 0, 1);
        E.answers("of a new object", Edges::nothing, RoadStrokes::digest, least.longValue());
    }

    // Promise 25: it has neither rows nor FINDINGS
    private static void digestOfNetAlone() {
        long want = made(fourStrokes()).digest();
        E.answers("a row", with(fourStrokes(), threeShorts()), RoadStrokes::digest, want);
        E.answers("a FINDING", with(fourStrokes(), x -> x.lose(0)), RoadStrokes::digest, want);
        E.answers("it finds nothing", with(Edges::nothing, RoadStrokes::digest), x -> x.count(8), 0);
        E.due("a meeting more is told", made(with(fourStrokes(), x -> x.meeting(1, 1))).digest() != want ? 1 : 0, 1);
    }
}
