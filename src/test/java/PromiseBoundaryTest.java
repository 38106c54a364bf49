import java.math.BigInteger;
import java.util.ArrayList;
import java.util.List;

/**
 * The boundary cases that promises 1 to 19 name, one test for each, with answers worked out
 * by hand from the document. No moor is asked more than 512 times.
 */
public final class PromiseBoundaryTest extends Facts {
    private static final int[] NO_CAIRNS_OF_FOUR = {-1, 4, 15, 16, 17, Integer.MIN_VALUE, Integer.MAX_VALUE};
    private static final int[] NO_CAIRNS_OF_SIXTEEN = {-1, 16, 17, 31, 32, Integer.MIN_VALUE, Integer.MAX_VALUE};
    private static final int[][] NO_PLACES = {{-1, 0}, {31, 0}, {0, -1}, {0, 31}, {-1, 30}, {31, 30}, {30, -1},
        {30, 31}, {-1, -1}, {31, 31}, {-1, 31}, {Integer.MIN_VALUE, 0}, {0, Integer.MIN_VALUE},
        {Integer.MAX_VALUE, 30}, {30, Integer.MAX_VALUE}};

    private PromiseBoundaryTest() {
    }

    public static void main(String[] args) {
        aNewObject();
        build();
        raise();
        fix();
        flip();
        settle();
        told();
        triangle();
        edge();
        count();
        at();
        height();
        nearest();
        circles();
        way();
        settles();
        would();
        mean();
        digest();
        askingChangesNothing();
        Due.end();
    }

    /** A call that asks about a place. */
    private interface Place {
        Object of(MoorTriangles moor, int x, int y);
    }

    private static void noPlaces(String name, MoorTriangles moor, Place place) {
        for (int[] p : NO_PLACES) {
            noArgument(name + "(" + p[0] + ", " + p[1] + ")", moor, m -> place.of(m, p[0], p[1]));
        }
    }

    private static void raiseAll(MoorTriangles moor, int height) {
        int cairns = moor.count(0);
        for (int cairn = 0; cairn < cairns; cairn++) {
            moor.raise(cairn, height);
        }
    }

    private static void fixAll(MoorTriangles moor) {
        for (int a = 0; a < 16; a++) {
            for (int b = a + 1; b < 16; b++) {
                if (moor.edge(a, b, 0) == 1) {
                    moor.fix(a, b, true);
                }
            }
        }
    }

    // ---- Promise 1

    private static void aNewObject() {
        fourCairnsAndTwoTriangles();
        eachOneNew();
    }

    private static void fourCairnsAndTwoTriangles() {
        Due.about("Promise 1: four cairns and two triangles, no more");
        MoorTriangles moor = new MoorTriangles();
        counts("new", moor, 4, 2, 5, 4, 0, 0, 0);
        cairn("last", moor, 3, 0, 30, 0, 2, 1);
        noIndex("told(4, 0)", moor, m -> m.told(4, 0));
        Due.is("triangle(1, 2)", 3, () -> moor.triangle(1, 2));
        noIndex("triangle(2, 0)", moor, m -> m.triangle(2, 0));
    }

    private static void eachOneNew() {
        Due.about("Promise 1: a moor made behind changes of another one");
        MoorTriangles other = fan();
        raiseAll(other, 99);
        fixAll(other);
        MoorTriangles moor = new MoorTriangles();
        counts("new", moor, 4, 2, 5, 4, 0, 0, 0);
        Due.is("height(0, 0)", 0, () -> moor.height(0, 0));
        Due.is("build(12, 0, 0)", 4, () -> moor.build(12, 0, 0));
    }

    // ---- Promise 2

    private static void build() {
        buildAtTheSmallestAndGreatestPlaces();
        buildBeyondThem();
        buildOfTheSmallestAndGreatestHeight();
        buildOfHeightsBeyond();
        buildTheSixteenth();
        buildOneTooMany();
        buildUponACairn();
        refusedBuildsTakeNoNumber();
    }

    private static void buildAtTheSmallestAndGreatestPlaces() {
        Due.about("Promise 2: x and y from 0 to 30");
        MoorTriangles moor = new MoorTriangles();
        Due.is("build(0, 15, 1)", 4, () -> moor.build(0, 15, 1));
        Due.is("build(15, 0, 2)", 5, () -> moor.build(15, 0, 2));
        Due.is("build(30, 15, 3)", 6, () -> moor.build(30, 15, 3));
        Due.is("build(15, 30, 4)", 7, () -> moor.build(15, 30, 4));
        cairn("x smallest", moor, 4, 0, 15, 1);
        cairn("y smallest", moor, 5, 15, 0, 2);
        cairn("x greatest", moor, 6, 30, 15, 3);
        cairn("y greatest", moor, 7, 15, 30, 4);
        counts("all four sides cut", moor, 8, 6, 13, 8);
    }

    private static void buildBeyondThem() {
        Due.about("Promise 2: if x or y is not 0 to 30");
        noPlaces("build", new MoorTriangles(), (m, x, y) -> m.build(x, y, 5));
        MoorTriangles full = fan();
        noPlaces("build with 16", full, (m, x, y) -> m.build(x, y, 5));
    }

    private static void buildOfTheSmallestAndGreatestHeight() {
        Due.about("Promise 2: height from 0 to 99");
        MoorTriangles moor = new MoorTriangles();
        Due.is("build(7, 3, 0)", 4, () -> moor.build(7, 3, 0));
        Due.is("build(8, 3, 99)", 5, () -> moor.build(8, 3, 99));
        Due.is("told(4, 2)", 0, () -> moor.told(4, 2));
        Due.is("told(5, 2)", 99, () -> moor.told(5, 2));
    }

    private static void buildOfHeightsBeyond() {
        Due.about("Promise 2: height is not 0 to 99");
        for (int no : NO_HEIGHTS) {
            MoorTriangles moor = new MoorTriangles();
            noArgument("build(7, 3, " + no + ")", moor, m -> m.build(7, 3, no));
            noArgument("build(0, 0, " + no + ") upon a cairn", moor, m -> m.build(0, 0, no));
            noArgument("build(0, 31, " + no + ") beyond", moor, m -> m.build(0, 31, no));
        }
    }

    private static void buildTheSixteenth() {
        Due.about("Promise 2: the sixteenth");
        MoorTriangles moor = new MoorTriangles();
        for (int y = 1; y <= 11; y++) {
            moor.build(0, y, 0);
        }
        Due.is("count(0)", 15, () -> moor.count(0));
        Due.is("build(29, 30, 99)", 15, () -> moor.build(29, 30, 99));
        cairn("sixteenth", moor, 15, 29, 30, 99);
        Due.is("count(0)", 16, () -> moor.count(0));
    }

    private static void buildOneTooMany() {
        Due.about("Promise 2: if there are 16");
        MoorTriangles full = inside();
        noState("within a triangle", full, m -> m.build(15, 13, 0));
        noState("at the border", full, m -> m.build(0, 1, 99));
        noState("upon the first", full, m -> m.build(0, 0, 0));
        noState("upon the sixteenth", full, m -> m.build(29, 14, 0));
        full.settle();
        noState("settled", full, m -> m.build(15, 13, 0));
    }

    private static void buildUponACairn() {
        Due.about("Promise 2: or one is there");
        MoorTriangles moor = withOne();
        noState("build(20, 10, 40)", moor, m -> m.build(20, 10, 40));
        noState("build(20, 10, 0)", moor, m -> m.build(20, 10, 0));
        noState("build(30, 0, 99)", moor, m -> m.build(30, 0, 99));
        Due.is("told(4, 2) as before", 40, () -> moor.told(4, 2));
        Due.is("build(10, 20, 0)", 5, () -> moor.build(10, 20, 0));
    }

    private static void refusedBuildsTakeNoNumber() {
        Due.about("Promise 2: returns its number, whatever was refused before");
        MoorTriangles moor = new MoorTriangles();
        noArgument("build(31, 5, 5)", moor, m -> m.build(31, 5, 5));
        noArgument("build(5, 5, 100)", moor, m -> m.build(5, 5, 100));
        noState("build(0, 0, 5)", moor, m -> m.build(0, 0, 5));
        Due.is("build(5, 6, 7)", 4, () -> moor.build(5, 6, 7));
        cairn("built", moor, 4, 5, 6, 7, 3, 3);
    }

    // ---- Promise 3

    private static void raise() {
        raiseTheFirstAndTheLast();
        raiseNone();
        raiseToTheSmallestAndGreatest();
        raiseBeyond();
        raiseWithBothWrong();
        raiseFromNowOn();
    }

    private static void raiseTheFirstAndTheLast() {
        Due.about("Promise 3: cairn 0 and cairn 15");
        MoorTriangles moor = fan();
        Due.is("raise(0, 8)", 0, () -> moor.raise(0, 8));
        Due.is("raise(15, 9)", 0, () -> moor.raise(15, 9));
        Due.is("raise(0, 8) again", 8, () -> moor.raise(0, 8));
        Due.is("raise(15, 0)", 9, () -> moor.raise(15, 0));
        Due.is("told(0, 2)", 8, () -> moor.told(0, 2));
        Due.is("told(14, 2)", 0, () -> moor.told(14, 2));
        Due.is("told(15, 2)", 0, () -> moor.told(15, 2));
    }

    private static void raiseNone() {
        Due.about("Promise 3: if there is no such cairn");
        for (int no : NO_CAIRNS_OF_FOUR) {
            noIndex("raise(" + no + ", 5) of four", new MoorTriangles(), m -> m.raise(no, 5));
        }
        for (int no : NO_CAIRNS_OF_SIXTEEN) {
            noIndex("raise(" + no + ", 5) of 16", fan(), m -> m.raise(no, 5));
        }
        MoorTriangles moor = new MoorTriangles();
        noIndex("raise(4, 5)", moor, m -> m.raise(4, 5));
        moor.build(5, 5, 1);
        Due.is("raise(4, 5) as soon as it is there", 1, () -> moor.raise(4, 5));
        noIndex("raise(5, 5)", moor, m -> m.raise(5, 5));
    }

    private static void raiseToTheSmallestAndGreatest() {
        Due.about("Promise 3: height from 0 to 99");
        MoorTriangles moor = new MoorTriangles();
        Due.is("raise(3, 99)", 0, () -> moor.raise(3, 99));
        Due.is("raise(3, 0)", 99, () -> moor.raise(3, 0));
        Due.is("raise(3, 1)", 0, () -> moor.raise(3, 1));
        Due.is("raise(3, 98)", 1, () -> moor.raise(3, 98));
        Due.is("told(3, 2)", 98, () -> moor.told(3, 2));
    }

    private static void raiseBeyond() {
        Due.about("Promise 3: if height is not 0 to 99");
        MoorTriangles moor = withOne();
        for (int no : NO_HEIGHTS) {
            noArgument("raise(0, " + no + ")", moor, m -> m.raise(0, no));
            noArgument("raise(4, " + no + ")", moor, m -> m.raise(4, no));
        }
        Due.is("told(4, 2) as before", 40, () -> moor.told(4, 2));
    }

    private static void raiseWithBothWrong() {
        Due.about("Promise 3: no such cairn and a wrong height at once");
        for (int no : NO_HEIGHTS) {
            noIndex("raise(4, " + no + ")", new MoorTriangles(), m -> m.raise(4, no));
            noIndex("raise(-1, " + no + ")", new MoorTriangles(), m -> m.raise(-1, no));
        }
    }

    private static void raiseFromNowOn() {
        Due.about("Promise 3: its height from now on");
        MoorTriangles moor = withOne();
        moor.raise(4, 77);
        moor.raise(2, 33);
        moor.build(10, 20, 5);
        moor.flip(0, 2);
        moor.settle();
        Due.is("told(4, 2)", 77, () -> moor.told(4, 2));
        Due.is("told(2, 2)", 33, () -> moor.told(2, 2));
        Due.is("told(5, 2)", 5, () -> moor.told(5, 2));
        Due.is("height(20, 10)", 77, () -> moor.height(20, 10));
        Due.is("raise(2, 0)", 33, () -> moor.raise(2, 0));
    }

    // ---- Promise 4

    private static void fix() {
        fixInnerAndBorderEdges();
        fixTwice();
        fixFromNowOn();
        fixUntilItNoLongerHasTo();
        fixAllOfThem();
        fixNoEdge();
        fixNoCairn();
    }

    private static void fixInnerAndBorderEdges() {
        Due.about("Promise 4: the edge between them (a border edge, too)");
        MoorTriangles moor = fan();
        int[][] edges = {{0, 2}, {0, 3}, {0, 4}, {1, 2}, {2, 3}, {15, 14}, {15, 1}, {15, 2}};
        for (int[] e : edges) {
            Due.is("fix(" + e[0] + ", " + e[1] + ", true)", false, () -> moor.fix(e[0], e[1], true));
            Due.is("edge(" + e[1] + ", " + e[0] + ", 2)", 1, () -> moor.edge(e[1], e[0], 2));
        }
        Due.is("count(4)", 8, () -> moor.count(4));
        Due.is("edge(2, 14, 2)", 0, () -> moor.edge(2, 14, 2));
    }

    private static void fixTwice() {
        Due.about("Promise 4: whether it had to");
        MoorTriangles moor = new MoorTriangles();
        Due.is("fix(0, 1, false)", false, () -> moor.fix(0, 1, false));
        Due.is("fix(0, 1, true)", false, () -> moor.fix(0, 1, true));
        Due.is("fix(1, 0, true)", true, () -> moor.fix(1, 0, true));
        Due.is("count(4)", 1, () -> moor.count(4));
        Due.is("fix(1, 0, false)", true, () -> moor.fix(1, 0, false));
        Due.is("fix(0, 1, false)", false, () -> moor.fix(0, 1, false));
        Due.is("count(4)", 0, () -> moor.count(4));
    }

    private static void fixFromNowOn() {
        Due.about("Promise 4: from now on, whatever is built and flipped around it");
        MoorTriangles moor = new MoorTriangles();
        moor.fix(0, 2, true);
        moor.build(30, 20, 0);
        moor.build(25, 10, 0);
        edgeIs("behind building beside it", moor, 0, 2, 1, 0, 1, 1, 0);
        // The triangle 0, 2, 4 of this edge becomes 0, 2, 5, and then 0, 2, 4 again.
        Due.is("flip(0, 4)", 16 * 2 + 5, () -> moor.flip(0, 4));
        edgeIs("behind a flip beside it", moor, 0, 2, 1, 0, 1, 1, 0);
        Due.is("flip(2, 5)", 16 * 0 + 4, () -> moor.flip(2, 5));
        edgeIs("behind a flip back", moor, 0, 2, 1, 0, 1, 1, 0);
        edgeIs("the one that was flipped", moor, 0, 4, 1, 0, 0, 1, 1);
        Due.is("count(4)", 1, () -> moor.count(4));
        Due.is("fix(2, 0, true)", true, () -> moor.fix(2, 0, true));
    }

    private static void fixUntilItNoLongerHasTo() {
        Due.about("Promise 4: an edge that is flipped away and back does not have to stay");
        MoorTriangles moor = new MoorTriangles();
        moor.fix(0, 2, true);
        moor.fix(0, 2, false);
        moor.flip(0, 2);
        edgeIs("flipped to", moor, 1, 3, 1, 0, 0, 0, 1);
        moor.fix(1, 3, true);
        moor.fix(3, 1, false);
        moor.flip(1, 3);
        edgeIs("flipped back", moor, 0, 2, 1, 0, 0, 0, 1);
        Due.is("fix(0, 2, false)", false, () -> moor.fix(0, 2, false));
    }

    private static void fixAllOfThem() {
        Due.about("Promise 4: every edge has to stay");
        MoorTriangles moor = fan();
        fixAll(moor);
        counts("all stay", moor, 16, 14, 29, 16, 29, 1, 0);
        noState("flip(0, 2)", moor, m -> m.flip(0, 2));
        Due.is("settle()", 0, moor::settle);
    }

    private static void fixNoEdge() {
        Due.about("Promise 4: if there is no edge between them");
        for (boolean stays : new boolean[] {true, false}) {
            MoorTriangles moor = new MoorTriangles();
            noState("fix(1, 3)", moor, m -> m.fix(1, 3, stays));
            noState("fix(3, 1)", moor, m -> m.fix(3, 1, stays));
            noState("fix(0, 0)", moor, m -> m.fix(0, 0, stays));
            moor.flip(0, 2);
            noState("fix(0, 2) behind its flip", moor, m -> m.fix(0, 2, stays));
            Due.is("fix(1, 3) behind the flip", false, () -> moor.fix(1, 3, stays));
            moor.build(15, 0, 0);
            noState("fix(0, 1) behind its cut", moor, m -> m.fix(0, 1, stays));
            noState("fix(4, 2)", moor, m -> m.fix(4, 2, stays));
        }
    }

    private static void fixNoCairn() {
        Due.about("Promise 4: if there is no such cairn");
        for (int no : NO_CAIRNS_OF_FOUR) {
            MoorTriangles moor = new MoorTriangles();
            noIndex("fix(" + no + ", 0, true)", moor, m -> m.fix(no, 0, true));
            noIndex("fix(3, " + no + ", false)", moor, m -> m.fix(3, no, false));
            noIndex("fix(" + no + ", " + no + ", true)", moor, m -> m.fix(no, no, true));
        }
        for (int no : NO_CAIRNS_OF_SIXTEEN) {
            MoorTriangles moor = fan();
            noIndex("fix(" + no + ", 15, false)", moor, m -> m.fix(no, 15, false));
            noIndex("fix(15, " + no + ", true)", moor, m -> m.fix(15, no, true));
        }
        MoorTriangles both = new MoorTriangles();
        noIndex("fix(-1, 4, true)", both, m -> m.fix(-1, 4, true));
    }

    // ---- Promise 5

    private static void flip() {
        flipToTheSmallestAndTheGreatest();
        flipByTheGreatestNumbers();
        flipNoEdge();
        flipWhatCannotBe();
        flipNoCairn();
    }

    /** Cairns 14 and 15 are the far corners of 0 to 2; 4 to 13 are on the border edge from 1 to 2. */
    private static MoorTriangles lastOnesFacing() {
        MoorTriangles moor = new MoorTriangles();
        for (int y = 1; y <= 10; y++) {
            moor.build(30, y, 0);
        }
        moor.build(10, 20, 0);
        moor.build(20, 15, 0);
        return moor;
    }

    private static void flipToTheSmallestAndTheGreatest() {
        Due.about("Promise 5: 16 times the smaller number and the greater one, from 2 to 239");
        MoorTriangles moor = lastOnesFacing();
        Due.is("flip(0, 2)", 16 * 14 + 15, () -> moor.flip(0, 2));
        edgeIs("flipped to", moor, 14, 15, 1, 0, 0, 0, 1);
        Due.is("flip(14, 15)", 16 * 0 + 2, () -> moor.flip(14, 15));
        edgeIs("flipped back", moor, 0, 2, 1, 0, 0, 1, 1);
    }

    private static void flipByTheGreatestNumbers() {
        Due.about("Promise 5: from both ends");
        MoorTriangles moor = lastOnesFacing();
        Due.is("flip(2, 0)", 239, () -> moor.flip(2, 0));
        Due.is("flip(15, 14)", 2, () -> moor.flip(15, 14));
        Due.is("count(6)", 2, () -> moor.count(6));
    }

    private static void flipNoEdge() {
        Due.about("Promise 5: if there is no edge between them");
        MoorTriangles moor = lastOnesFacing();
        noState("flip(14, 15)", moor, m -> m.flip(14, 15));
        noState("flip(15, 15)", moor, m -> m.flip(15, 15));
        noState("flip(0, 0)", moor, m -> m.flip(0, 0));
        moor.flip(0, 2);
        noState("flip(0, 2) behind its flip", moor, m -> m.flip(0, 2));
        noState("flip(1, 2) behind its cut", moor, m -> m.flip(1, 2));
        Due.is("count(6)", 1, () -> moor.count(6));
    }

    private static void flipWhatCannotBe() {
        Due.about("Promise 5: or it cannot be flipped");
        MoorTriangles moor = middle();
        noState("a border edge", moor, m -> m.flip(0, 3));
        noState("a corner of 180 degrees", moor, m -> m.flip(0, 4));
        MoorTriangles one = withOne();
        noState("a corner above 180 degrees", one, m -> m.flip(1, 4));
        one.fix(0, 2, true);
        noState("has to stay, though unfair", one, m -> m.flip(0, 2));
        Due.is("count(6)", 0, () -> one.count(6));
    }

    private static void flipNoCairn() {
        Due.about("Promise 5: if there is no such cairn");
        for (int no : NO_CAIRNS_OF_FOUR) {
            MoorTriangles moor = new MoorTriangles();
            noIndex("flip(" + no + ", 2)", moor, m -> m.flip(no, 2));
            noIndex("flip(2, " + no + ")", moor, m -> m.flip(2, no));
            noIndex("flip(" + no + ", " + no + ")", moor, m -> m.flip(no, no));
        }
        for (int no : NO_CAIRNS_OF_SIXTEEN) {
            MoorTriangles moor = fan();
            noIndex("flip(" + no + ", 15)", moor, m -> m.flip(no, 15));
            noIndex("flip(15, " + no + ")", moor, m -> m.flip(15, no));
        }
    }

    // ---- Promise 6

    private static void settle() {
        settleNothing();
        settleAFullOne();
        settleRoundWhatStays();
        settleBehindSettling();
    }

    private static void settleNothing() {
        Due.about("Promise 6: nothing to settle");
        MoorTriangles moor = new MoorTriangles();
        Due.is("settle() of a new one", 0, moor::settle);
        moor.flip(0, 2);
        Due.is("settle() of the other two triangles", 0, moor::settle);
        edgeIs("left as it is", moor, 1, 3, 1, 0, 0, 0, 1);
        Due.is("count(6)", 1, () -> moor.count(6));
    }

    private static void settleAFullOne() {
        Due.about("Promise 6: with 16 cairns");
        MoorTriangles moor = fan();
        Due.is("settle()", 12, moor::settle);
        Due.is("count(5)", 0, () -> moor.count(5));
        Due.is("count(6)", 12, () -> moor.count(6));
        edgeIs("the last one flipped to", moor, 3, 15, 1, 0, 0, 0, 1);
        edgeIs("the first one not flipped", moor, 2, 15, 1, 0, 0, 0, 1);
    }

    private static void settleRoundWhatStays() {
        Due.about("Promise 6: up to an edge that has to stay");
        MoorTriangles moor = fan();
        moor.fix(2, 4, true);
        Due.is("settle()", 1, moor::settle);
        edgeIs("unfair, but stays", moor, 2, 4, 1, 0, 1, 1, 0);
        counts("settled", moor, 16, 14, 29, 16, 1, 1, 1);
        moor.fix(4, 2, false);
        Due.is("settle() when it no longer has to", 11, moor::settle);
        counts("settled", moor, 16, 14, 29, 16, 0, 0, 12);
    }

    private static void settleBehindSettling() {
        Due.about("Promise 6: a settled one");
        MoorTriangles moor = inside();
        moor.settle();
        long before = moor.digest();
        Due.is("settle()", 0, moor::settle);
        Due.is("digest()", before, moor::digest);
        Due.is("count(5)", 0, () -> moor.count(5));
    }

    // ---- Promise 7

    private static void told() {
        toldOfTheFirstAndTheLast();
        toldTheMostEdges();
        toldTheFewestEdges();
        toldOfNone();
        toldWithAWrongWhat();
    }

    private static void toldOfTheFirstAndTheLast() {
        Due.about("Promise 7: cairn 0 and cairn 15, what 0 to 4");
        MoorTriangles moor = fan();
        moor.raise(0, 1);
        moor.raise(15, 99);
        cairn("first", moor, 0, 0, 0, 1, 3, 2);
        cairn("last", moor, 15, 12, 0, 99, 3, 2);
    }

    private static void toldTheMostEdges() {
        Due.about("Promise 7: an edge to every other cairn");
        cairn("in the fan", fan(), 2, 30, 30, 0, 15, 14);
        cairn("with a triangle all round", middle(), 4, 15, 15, 0, 4, 4);
    }

    private static void toldTheFewestEdges() {
        Due.about("Promise 7: two edges and one triangle");
        cairn("in a new one", new MoorTriangles(), 1, 30, 0, 0, 2, 1);
        cairn("in the fan", fan(), 1, 30, 0, 0, 2, 1);
        cairn("in the fan", fan(), 3, 0, 30, 0, 2, 1);
    }

    private static void toldOfNone() {
        Due.about("Promise 7: if there is no such cairn");
        for (int no : NO_CAIRNS_OF_FOUR) {
            noIndex("told(" + no + ", 0) of four", new MoorTriangles(), m -> m.told(no, 0));
            noIndex("told(" + no + ", 4) of four", new MoorTriangles(), m -> m.told(no, 4));
        }
        for (int no : NO_CAIRNS_OF_SIXTEEN) {
            noIndex("told(" + no + ", 0) of 16", fan(), m -> m.told(no, 0));
            noIndex("told(" + no + ", 2) of 16", fan(), m -> m.told(no, 2));
        }
    }

    private static void toldWithAWrongWhat() {
        Due.about("Promise 7: or what is not 0 to 4");
        for (int no : new int[] {-1, 5, Integer.MIN_VALUE, Integer.MAX_VALUE}) {
            noIndex("told(0, " + no + ")", new MoorTriangles(), m -> m.told(0, no));
            noIndex("told(15, " + no + ")", fan(), m -> m.told(15, no));
            noIndex("told(-1, " + no + ")", new MoorTriangles(), m -> m.told(-1, no));
        }
    }

    // ---- Promise 8

    private static void triangle() {
        triangleTheFirstAndTheLast();
        triangleOfTheSmallestAndGreatestArea();
        triangleOfNone();
        triangleWithAWrongWhat();
    }

    private static void triangleTheFirstAndTheLast() {
        Due.about("Promise 8: the first one and the last one");
        MoorTriangles moor = fan();
        Due.is("triangle(0, 0)", 0, () -> moor.triangle(0, 0));
        Due.is("triangle(0, 2)", 3, () -> moor.triangle(0, 2));
        Due.is("triangle(13, 0)", 2, () -> moor.triangle(13, 0));
        Due.is("triangle(13, 1)", 14, () -> moor.triangle(13, 1));
        Due.is("triangle(13, 2)", 15, () -> moor.triangle(13, 2));
        noIndex("triangle(14, 0)", moor, m -> m.triangle(14, 0));
        MoorTriangles most = inside();
        Due.is("triangle(25, 3) is an area", true, () -> most.triangle(25, 3) > 0);
        noIndex("triangle(26, 3)", most, m -> m.triangle(26, 3));
    }

    private static void triangleOfTheSmallestAndGreatestArea() {
        Due.about("Promise 8: twice its area, from 1 to 900");
        MoorTriangles moor = with(new int[] {1, 0}, new int[] {1, 1});
        Due.is("triangle(1, 3)", 1, () -> moor.triangle(1, 3));
        Due.is("triangle(1, 3) of a new one", 900, () -> new MoorTriangles().triangle(1, 3));
    }

    private static void triangleOfNone() {
        Due.about("Promise 8: if there is no such triangle");
        for (int no : new int[] {-1, 2, 3, 27, 28, 29, Integer.MIN_VALUE, Integer.MAX_VALUE}) {
            noIndex("triangle(" + no + ", 0) of two", new MoorTriangles(), m -> m.triangle(no, 0));
            noIndex("triangle(" + no + ", 3) of two", new MoorTriangles(), m -> m.triangle(no, 3));
        }
        for (int no : new int[] {-1, 26, 27, 28, 29, 84, Integer.MIN_VALUE, Integer.MAX_VALUE}) {
            noIndex("triangle(" + no + ", 0) of 26", inside(), m -> m.triangle(no, 0));
            noIndex("triangle(" + no + ", 3) of 26", inside(), m -> m.triangle(no, 3));
        }
    }

    private static void triangleWithAWrongWhat() {
        Due.about("Promise 8: or what is not 0 to 3");
        for (int no : new int[] {-1, 4, Integer.MIN_VALUE, Integer.MAX_VALUE}) {
            noIndex("triangle(0, " + no + ")", new MoorTriangles(), m -> m.triangle(0, no));
            noIndex("triangle(1, " + no + ")", new MoorTriangles(), m -> m.triangle(1, no));
            noIndex("triangle(2, " + no + ")", new MoorTriangles(), m -> m.triangle(2, no));
        }
    }

    // ---- Promise 9

    private static void edge() {
        edgeOfEachKind();
        edgeThatIsNone();
        edgeOfNoCairn();
        edgeWithAWrongWhat();
    }

    private static void edgeOfEachKind() {
        Due.about("Promise 9: what 0 to 4 of each kind of edge");
        MoorTriangles moor = fan();
        edgeIs("unfair, can be flipped", moor, 0, 2, 1, 0, 0, 1, 1);
        edgeIs("fair, cannot be flipped", moor, 2, 15, 1, 0, 0, 0, 0);
        edgeIs("border", moor, 14, 15, 1, 1, 0, 0, 0);
        moor.fix(0, 2, true);
        moor.fix(2, 15, true);
        moor.fix(14, 15, true);
        edgeIs("unfair, has to stay", moor, 0, 2, 1, 0, 1, 1, 0);
        edgeIs("fair, has to stay", moor, 2, 15, 1, 0, 1, 0, 0);
        edgeIs("border, has to stay", moor, 14, 15, 1, 1, 1, 0, 0);
        edgeIs("fair, can be flipped", new MoorTriangles(), 0, 2, 1, 0, 0, 0, 1);
    }

    private static void edgeThatIsNone() {
        Due.about("Promise 9: 0 for 1 to 4 without an edge");
        MoorTriangles moor = fan();
        for (int cairn = 0; cairn < 16; cairn++) {
            edgeIs("to itself", moor, cairn, cairn, 0, 0, 0, 0, 0);
        }
        edgeIs("cut", moor, 0, 1, 0, 0, 0, 0, 0);
        edgeIs("two apart", moor, 13, 15, 0, 0, 0, 0, 0);
        MoorTriangles cut = new MoorTriangles();
        cut.fix(0, 2, true);
        cut.build(15, 15, 0);
        edgeIs("cut, had to stay", cut, 0, 2, 0, 0, 0, 0, 0);
    }

    private static void edgeOfNoCairn() {
        Due.about("Promise 9: if there is no such cairn");
        for (int no : NO_CAIRNS_OF_FOUR) {
            MoorTriangles moor = new MoorTriangles();
            noIndex("edge(" + no + ", 0, 0)", moor, m -> m.edge(no, 0, 0));
            noIndex("edge(3, " + no + ", 4)", moor, m -> m.edge(3, no, 4));
            noIndex("edge(" + no + ", " + no + ", 0)", moor, m -> m.edge(no, no, 0));
        }
        for (int no : NO_CAIRNS_OF_SIXTEEN) {
            MoorTriangles moor = fan();
            noIndex("edge(" + no + ", 15, 0)", moor, m -> m.edge(no, 15, 0));
            noIndex("edge(15, " + no + ", 1)", moor, m -> m.edge(15, no, 1));
        }
    }

    private static void edgeWithAWrongWhat() {
        Due.about("Promise 9: or what is not 0 to 4");
        for (int no : new int[] {-1, 5, Integer.MIN_VALUE, Integer.MAX_VALUE}) {
            MoorTriangles moor = new MoorTriangles();
            noIndex("edge(0, 2, " + no + ") of an edge", moor, m -> m.edge(0, 2, no));
            noIndex("edge(1, 3, " + no + ") of none", moor, m -> m.edge(1, 3, no));
            noIndex("edge(2, 2, " + no + ") to itself", moor, m -> m.edge(2, 2, no));
            noIndex("edge(4, 2, " + no + ") of no cairn", moor, m -> m.edge(4, 2, no));
        }
    }

    // ---- Promise 10

    private static void count() {
        countTheFewestAndTheMost();
        countAllThatStay();
        countUnfairOnesThatStay();
        countFlipsOfBothKinds();
        countWithAWrongWhat();
    }

    private static void countTheFewestAndTheMost() {
        Due.about("Promise 10: the fewest and the most");
        counts("four cairns", new MoorTriangles(), 4, 2, 5, 4, 0, 0, 0);
        counts("16 at the border", fan(), 16, 14, 29, 16, 0, 1, 0);
        counts("four at the border", inside(), 16, 26, 41, 4, 0);
    }

    private static void countAllThatStay() {
        Due.about("Promise 10: edges that have to stay, border edges too");
        MoorTriangles moor = new MoorTriangles();
        moor.fix(0, 1, true);
        moor.fix(1, 2, true);
        moor.fix(2, 3, true);
        moor.fix(3, 0, true);
        Due.is("count(4) of the border", 4, () -> moor.count(4));
        moor.fix(0, 2, true);
        Due.is("count(4) of all", 5, () -> moor.count(4));
        Due.is("count(3)", 4, () -> moor.count(3));
    }

    private static void countUnfairOnesThatStay() {
        Due.about("Promise 10: unfair ones (also those that have to stay)");
        MoorTriangles moor = with(new int[] {30, 20}, new int[] {25, 10});
        Due.is("count(5)", 2, () -> moor.count(5));
        moor.fix(0, 2, true);
        Due.is("count(5) with one that stays", 2, () -> moor.count(5));
        moor.fix(0, 4, true);
        Due.is("count(5) with both that stay", 2, () -> moor.count(5));
    }

    private static void countFlipsOfBothKinds() {
        Due.about("Promise 10: flips in all (by hand and by settling)");
        MoorTriangles moor = fan();
        Due.is("count(6) at first", 0, () -> moor.count(6));
        moor.flip(0, 2);
        Due.is("count(6) by hand", 1, () -> moor.count(6));
        Due.is("settles()", 11, moor::settles);
        Due.is("count(6) behind settles()", 1, () -> moor.count(6));
        Due.is("settle()", 11, moor::settle);
        Due.is("count(6) by settling", 12, () -> moor.count(6));
        noState("flip of a border edge", moor, m -> m.flip(0, 4));
        Due.is("count(6) behind a refused one", 12, () -> moor.count(6));
        moor.settle();
        Due.is("count(6) behind settling nothing", 12, () -> moor.count(6));
        Due.is("flip(2, 15)", 16 * 1 + 3, () -> moor.flip(2, 15));
        Due.is("count(6) by hand again", 13, () -> moor.count(6));
    }

    private static void countWithAWrongWhat() {
        Due.about("Promise 10: if what is not 0 to 6");
        for (int no : new int[] {-1, 7, 8, Integer.MIN_VALUE, Integer.MAX_VALUE}) {
            noIndex("count(" + no + ")", new MoorTriangles(), m -> m.count(no));
            noIndex("count(" + no + ") of a full one", fan(), m -> m.count(no));
        }
    }

    // ---- Promise 11

    private static void at() {
        atEveryPlaceOfANewOne();
        atEachCorner();
        atPlacesOnEdges();
        atPlacesWithin();
        atPlacesJustBesideALongEdge();
        atBeyond();
    }

    private static void atEveryPlaceOfANewOne() {
        Due.about("Promise 11: every place of a new one");
        for (int y = 0; y <= 30; y++) {
            MoorTriangles moor = new MoorTriangles();
            for (int x = 0; x <= 30; x++) {
                int px = x;
                int py = y;
                Due.is("at(" + x + ", " + y + ")", y <= x ? 0 : 1, () -> moor.at(px, py));
            }
        }
    }

    private static void atEachCorner() {
        Due.about("Promise 11: at the corner of which; of several the one with the smallest number");
        MoorTriangles moor = fan();
        Due.is("at(0, 0)", 0, () -> moor.at(0, 0));
        Due.is("at(30, 0)", 2, () -> moor.at(30, 0));
        Due.is("at(30, 30)", 0, () -> moor.at(30, 30));
        Due.is("at(0, 30)", 0, () -> moor.at(0, 30));
        Due.is("at(1, 0)", 1, () -> moor.at(1, 0));
        for (int x = 2; x <= 11; x++) {
            int place = x;
            Due.is("at(" + x + ", 0)", x + 1, () -> moor.at(place, 0));
        }
        Due.is("at(12, 0)", 2, () -> moor.at(12, 0));
    }

    private static void atPlacesOnEdges() {
        Due.about("Promise 11: on the edge of which; of several the one with the smallest number");
        MoorTriangles moor = fan();
        Due.is("at(15, 15), on 0 to 2", 0, () -> moor.at(15, 15));
        Due.is("at(0, 1), on 0 to 3", 0, () -> moor.at(0, 1));
        Due.is("at(29, 30), on 2 to 3", 0, () -> moor.at(29, 30));
        Due.is("at(30, 29), on 1 to 2", 2, () -> moor.at(30, 29));
        Due.is("at(29, 0), on 1 to 15", 2, () -> moor.at(29, 0));
        Due.is("at(18, 10), on 2 to 15", 2, () -> moor.at(18, 10));
        Due.is("at(16, 15), on 2 to 5", 3, () -> moor.at(16, 15));
        Due.is("at(20, 15), on 2 to 13", 11, () -> moor.at(20, 15));
    }

    private static void atPlacesWithin() {
        Due.about("Promise 11: within, one step beside an edge");
        MoorTriangles moor = withOne();
        Due.is("at(1, 2)", 1, () -> moor.at(1, 2));
        Due.is("at(16, 15)", 2, () -> moor.at(16, 15));
        Due.is("at(19, 10)", 2, () -> moor.at(19, 10));
        Due.is("at(19, 9)", 0, () -> moor.at(19, 9));
        Due.is("at(21, 10)", 3, () -> moor.at(21, 10));
    }

    private static void atPlacesJustBesideALongEdge() {
        Due.about("Promise 11: twice the area of the place and an edge is 1");
        // (9, 4) and (11, 5) are beside the edge from (0, 0) to (20, 9), which has 5 and 6 as its far corners.
        MoorTriangles above = with(new int[] {20, 9}, new int[] {20, 15}, new int[] {20, 4});
        Due.is("at(11, 5), in 0, 4, 5", 3, () -> above.at(11, 5));
        Due.is("at(9, 4), in 0, 4, 6", 4, () -> above.at(9, 4));
        MoorTriangles below = with(new int[] {20, 9}, new int[] {20, 4}, new int[] {20, 15});
        Due.is("at(9, 4), in 0, 4, 5", 3, () -> below.at(9, 4));
        Due.is("at(11, 5), in 0, 4, 6", 4, () -> below.at(11, 5));
    }

    private static void atBeyond() {
        Due.about("Promise 11: if x or y is not 0 to 30");
        noPlaces("at", withOne(), (m, x, y) -> m.at(x, y));
    }

    // ---- Promise 12

    private static void height() {
        heightOfALevelMoor();
        heightAtACairn();
        heightIsCut();
        heightIsDividedOnce();
        heightOnAnEdge();
        heightInTheSmallestTriangle();
        heightBeyond();
    }

    private static void heightOfALevelMoor() {
        Due.about("Promise 12: all cairns 0 high, or 99 high, at every place");
        for (int y = 0; y <= 30; y++) {
            MoorTriangles low = inside();
            MoorTriangles high = inside();
            raiseAll(high, 99);
            for (int x = 0; x <= 30; x++) {
                int px = x;
                int py = y;
                Due.is("height(" + x + ", " + y + ") of 0", 0, () -> low.height(px, py));
                Due.is("height(" + x + ", " + y + ") of 99", 99, () -> high.height(px, py));
            }
        }
    }

    private static void heightAtACairn() {
        Due.about("Promise 12: at a cairn");
        MoorTriangles moor = fan();
        for (int cairn = 0; cairn < 16; cairn++) {
            moor.raise(cairn, 99 - cairn);
        }
        Due.is("height(0, 0)", 99, () -> moor.height(0, 0));
        Due.is("height(30, 0)", 98, () -> moor.height(30, 0));
        Due.is("height(30, 30)", 97, () -> moor.height(30, 30));
        Due.is("height(0, 30)", 96, () -> moor.height(0, 30));
        for (int x = 1; x <= 12; x++) {
            int place = x;
            Due.is("height(" + x + ", 0)", 99 - (x + 3), () -> moor.height(place, 0));
        }
    }

    private static void heightIsCut() {
        Due.about("Promise 12: / is cut towards 0");
        MoorTriangles low = new MoorTriangles();
        low.raise(0, 1);
        // 1 * 870 / 900
        Due.is("height(1, 1)", 0, () -> low.height(1, 1));
        Due.is("height(0, 0)", 1, () -> low.height(0, 0));
        MoorTriangles high = new MoorTriangles();
        raiseAll(high, 99);
        high.raise(0, 98);
        // (98 * 30 + 99 * 870) / 900
        Due.is("height(29, 29)", 98, () -> high.height(29, 29));
        Due.is("height(30, 29)", 99, () -> high.height(30, 29));
        MoorTriangles border = fan();
        border.raise(15, 99);
        // 99 * 510 / 540, and in the triangle 2, 14, 15: 99 * 11 / 30
        Due.is("height(13, 0)", 93, () -> border.height(13, 0));
        Due.is("height(12, 1)", 36, () -> border.height(12, 1));
    }

    private static void heightIsDividedOnce() {
        Due.about("Promise 12: added, divided once");
        MoorTriangles moor = new MoorTriangles();
        raiseAll(moor, 1);
        // 600, 150 and 150 of 900: each one cut by itself would make 0.
        Due.is("height(10, 5)", 1, () -> moor.height(10, 5));
        moor.raise(1, 2);
        moor.raise(2, 5);
        // (1 * 600 + 2 * 150 + 5 * 150) / 900
        Due.is("height(10, 5)", 1, () -> moor.height(10, 5));
        moor.raise(2, 6);
        // (1 * 600 + 2 * 150 + 6 * 150) / 900 is just 2.
        Due.is("height(10, 5)", 2, () -> moor.height(10, 5));
    }

    private static void heightOnAnEdge() {
        Due.about("Promise 12: on an edge the far corner counts nothing");
        MoorTriangles moor = new MoorTriangles();
        moor.raise(1, 99);
        moor.raise(3, 99);
        moor.raise(2, 30);
        Due.is("height(10, 10)", 10, () -> moor.height(10, 10));
        Due.is("height(29, 29)", 29, () -> moor.height(29, 29));
        // (30 * 29 + 99 * 1) / 30, and (30 * 1 + 99 * 29) / 30
        Due.is("height(30, 29)", 32, () -> moor.height(30, 29));
        Due.is("height(1, 30)", 96, () -> moor.height(1, 30));
    }

    private static void heightInTheSmallestTriangle() {
        Due.about("Promise 12: divided by an area of 1");
        MoorTriangles moor = with(new int[] {1, 0}, new int[] {1, 1});
        moor.raise(4, 99);
        Due.is("at(1, 0)", 1, () -> moor.at(1, 0));
        Due.is("height(1, 0)", 99, () -> moor.height(1, 0));
    }

    private static void heightBeyond() {
        Due.about("Promise 12: if x or y is not 0 to 30");
        noPlaces("height", withOne(), (m, x, y) -> m.height(x, y));
    }

    // ---- Promise 13

    private static void nearest() {
        nearestAtACairn();
        nearestOfSeveral();
        nearestOneStepOff();
        nearestOfTheLast();
        nearestBeyond();
    }

    private static void nearestAtACairn() {
        Due.about("Promise 13: at a cairn");
        MoorTriangles moor = fan();
        Due.is("nearest(0, 0)", 0, () -> moor.nearest(0, 0));
        Due.is("nearest(30, 0)", 1, () -> moor.nearest(30, 0));
        Due.is("nearest(30, 30)", 2, () -> moor.nearest(30, 30));
        Due.is("nearest(0, 30)", 3, () -> moor.nearest(0, 30));
        Due.is("nearest(12, 0)", 15, () -> moor.nearest(12, 0));
    }

    private static void nearestOfSeveral() {
        Due.about("Promise 13: of several the one with the smallest number");
        MoorTriangles moor = new MoorTriangles();
        int[][] places = {{15, 15, 0}, {15, 0, 0}, {0, 15, 0}, {30, 15, 1}, {15, 30, 2}, {15, 14, 0}, {15, 16, 2}};
        for (int[] p : places) {
            Due.is("nearest(" + p[0] + ", " + p[1] + ")", p[2], () -> moor.nearest(p[0], p[1]));
        }
        MoorTriangles two = with(new int[] {20, 20}, new int[] {20, 10});
        Due.is("between 4 and 5", 4, () -> two.nearest(20, 15));
        // 125 to each of the two
        Due.is("between 0 and 5", 0, () -> two.nearest(10, 5));
    }

    private static void nearestOneStepOff() {
        Due.about("Promise 13: one step beside a place with several");
        MoorTriangles moor = new MoorTriangles();
        int[][] places = {{14, 14, 0}, {16, 14, 1}, {16, 16, 2}, {14, 16, 3}, {16, 15, 1}, {14, 15, 0}, {14, 30, 3},
            {0, 16, 3}, {30, 16, 2}};
        for (int[] p : places) {
            Due.is("nearest(" + p[0] + ", " + p[1] + ")", p[2], () -> moor.nearest(p[0], p[1]));
        }
    }

    private static void nearestOfTheLast() {
        Due.about("Promise 13: the sixteenth");
        MoorTriangles moor = fan();
        // From (21, 0) it is 81 to 1 and to 15; from (15, 15) 234 to 15, and 450 to a corner.
        Due.is("nearest(21, 0)", 1, () -> moor.nearest(21, 0));
        Due.is("nearest(20, 0)", 15, () -> moor.nearest(20, 0));
        Due.is("nearest(15, 15)", 15, () -> moor.nearest(15, 15));
    }

    private static void nearestBeyond() {
        Due.about("Promise 13: if x or y is not 0 to 30");
        noPlaces("nearest", withOne(), (m, x, y) -> m.nearest(x, y));
    }

    // ---- Promise 14

    private static void circles() {
        circlesAtEveryPlaceOfANewOne();
        circlesOnOne();
        circlesReachBeyondTheirTriangle();
        circlesBeyond();
    }

    private static void circlesAtEveryPlaceOfANewOne() {
        Due.about("Promise 14: within both circles at every place of a new one but its corners");
        for (int y = 0; y <= 30; y++) {
            MoorTriangles moor = new MoorTriangles();
            for (int x = 0; x <= 30; x++) {
                int px = x;
                int py = y;
                boolean corner = (x == 0 || x == 30) && (y == 0 || y == 30);
                Due.is("circles(" + x + ", " + y + ")", corner ? 0 : 2, () -> moor.circles(px, py));
            }
        }
    }

    private static void circlesOnOne() {
        Due.about("Promise 14: within, not on");
        MoorTriangles moor = withOne();
        // Squared radius 250 round (15, -5), 450 round (15, 15), 1250 round (-5, 35), 250 round (35, 15).
        int[][] places = {{10, 10, 2}, {10, 9, 3}, {10, 11, 2}, {24, 8, 2}, {24, 7, 3}, {24, 9, 2}, {20, 10, 1}};
        for (int[] p : places) {
            Due.is("circles(" + p[0] + ", " + p[1] + ")", p[2], () -> moor.circles(p[0], p[1]));
        }
    }

    private static void circlesReachBeyondTheirTriangle() {
        Due.about("Promise 14: in circles of triangles that are elsewhere");
        MoorTriangles moor = fan();
        // At y = 0 the circle of 0, 2, 3 reaches from 0 to 30, and each other one from one cairn to the next.
        Due.is("circles(2, 0)", 1, () -> moor.circles(2, 0));
        Due.is("circles(0, 0)", 0, () -> moor.circles(0, 0));
        Due.is("circles(13, 0)", 2, () -> moor.circles(13, 0));
        Due.is("circles(29, 0)", 2, () -> moor.circles(29, 0));
        Due.is("circles(30, 0)", 0, () -> moor.circles(30, 0));
        Due.is("circles(30, 30)", 0, () -> moor.circles(30, 30));
    }

    private static void circlesBeyond() {
        Due.about("Promise 14: if x or y is not 0 to 30");
        noPlaces("circles", withOne(), (m, x, y) -> m.circles(x, y));
    }

    // ---- Promise 15

    private static void way() {
        wayToItself();
        wayByOneEdge();
        wayAlongARow();
        wayRoundAFlippedEdge();
        wayOfNoCairn();
    }

    private static void wayToItself() {
        Due.about("Promise 15: 0, if both are the same");
        MoorTriangles moor = fan();
        for (int cairn = 0; cairn < 16; cairn++) {
            int same = cairn;
            Due.is("way(" + cairn + ", " + cairn + ")", 0, () -> moor.way(same, same));
        }
    }

    private static void wayByOneEdge() {
        Due.about("Promise 15: from one edge to two");
        MoorTriangles moor = fan();
        Due.is("way(14, 15)", 1, () -> moor.way(14, 15));
        Due.is("way(15, 1)", 1, () -> moor.way(15, 1));
        Due.is("way(2, 15)", 1, () -> moor.way(2, 15));
        Due.is("way(4, 15)", 2, () -> moor.way(4, 15));
        Due.is("way(15, 3)", 2, () -> moor.way(15, 3));
        Due.is("way(0, 1)", 2, () -> moor.way(0, 1));
    }

    private static void wayAlongARow() {
        Due.about("Promise 15: seven edges");
        int[] columns = {4, 8, 13, 17, 21, 26};
        MoorTriangles moor = new MoorTriangles();
        for (int x : columns) {
            moor.build(x, 0, 0);
        }
        for (int x : columns) {
            moor.build(x, 30, 0);
        }
        moor.settle();
        // Settled, each edge is within one column or goes from one to the next: there are eight columns.
        Due.is("way(0, 1)", 7, () -> moor.way(0, 1));
        Due.is("way(2, 3)", 7, () -> moor.way(2, 3));
        Due.is("way(0, 9)", 6, () -> moor.way(0, 9));
        Due.is("way(15, 3)", 6, () -> moor.way(15, 3));
        Due.is("way(0, 3)", 1, () -> moor.way(0, 3));
    }

    private static void wayRoundAFlippedEdge() {
        Due.about("Promise 15: by the edges that are there now");
        MoorTriangles moor = new MoorTriangles();
        Due.is("way(1, 3)", 2, () -> moor.way(1, 3));
        moor.flip(0, 2);
        Due.is("way(1, 3) behind the flip", 1, () -> moor.way(1, 3));
        Due.is("way(2, 0) behind the flip", 2, () -> moor.way(2, 0));
        MoorTriangles settled = fan();
        settled.settle();
        Due.is("way(0, 1) of the settled fan", 3, () -> settled.way(0, 1));
        Due.is("way(4, 1) of the settled fan", 3, () -> settled.way(4, 1));
        Due.is("way(0, 2) of the settled fan", 2, () -> settled.way(0, 2));
    }

    private static void wayOfNoCairn() {
        Due.about("Promise 15: if there is no such cairn");
        for (int no : NO_CAIRNS_OF_FOUR) {
            MoorTriangles moor = new MoorTriangles();
            noIndex("way(" + no + ", 0)", moor, m -> m.way(no, 0));
            noIndex("way(3, " + no + ")", moor, m -> m.way(3, no));
            noIndex("way(" + no + ", " + no + ")", moor, m -> m.way(no, no));
        }
        for (int no : NO_CAIRNS_OF_SIXTEEN) {
            MoorTriangles moor = fan();
            noIndex("way(" + no + ", 15)", moor, m -> m.way(no, 15));
            noIndex("way(15, " + no + ")", moor, m -> m.way(15, no));
        }
    }

    // ---- Promise 16

    private static void settles() {
        settlesNothing();
        settlesAFullOne();
        settlesRoundWhatStays();
    }

    private static void settlesNothing() {
        Due.about("Promise 16: nothing to settle");
        Due.is("settles() of a new one", 0, () -> new MoorTriangles().settles());
        Due.is("settles() with all on one circle", 0, () -> middle().settles());
        MoorTriangles settled = fan();
        settled.settle();
        Due.is("settles() of a settled one", 0, settled::settles);
    }

    private static void settlesAFullOne() {
        Due.about("Promise 16: nothing is changed, with 16 cairns");
        MoorTriangles moor = fan();
        long before = moor.digest();
        Due.is("settles()", 12, moor::settles);
        Due.is("settles() again", 12, moor::settles);
        Due.is("digest()", before, moor::digest);
        triangles("not settled", moor, fanTriangles());
        Due.is("settle()", 12, moor::settle);
        Due.is("settles() now", 0, moor::settles);
    }

    private static void settlesRoundWhatStays() {
        Due.about("Promise 16: round an edge that has to stay");
        MoorTriangles moor = fan();
        moor.fix(2, 4, true);
        Due.is("settles() up to 2 to 4", 1, moor::settles);
        moor.fix(0, 2, true);
        Due.is("settles() with both", 0, moor::settles);
        moor.fix(0, 2, false);
        moor.fix(2, 4, false);
        Due.is("settles() with none", 12, moor::settles);
    }

    // ---- Promise 17

    private static void would() {
        wouldWithin();
        wouldOnAnEdge();
        wouldWithSixteen();
        wouldBesideAnEdgeThatStays();
        wouldChangeNothing();
        wouldBeyond();
        wouldUponACairn();
    }

    private static void wouldWithin() {
        Due.about("Promise 17: within a triangle, one step beside an edge or a corner");
        MoorTriangles moor = new MoorTriangles();
        // All lies within the circle through 0, 2 and 3, or 0, 1 and 2; so 0 to 2 gets unfair.
        int[][] places = {{15, 14}, {14, 15}, {29, 1}, {1, 29}, {2, 1}, {29, 28}};
        for (int[] p : places) {
            Due.is("would(" + p[0] + ", " + p[1] + ")", 1, () -> moor.would(p[0], p[1]));
        }
    }

    private static void wouldOnAnEdge() {
        Due.about("Promise 17: on an edge");
        MoorTriangles moor = new MoorTriangles();
        Due.is("would(15, 15)", 0, () -> moor.would(15, 15));
        Due.is("would(1, 1)", 0, () -> moor.would(1, 1));
        Due.is("would(29, 29)", 0, () -> moor.would(29, 29));
        Due.is("would(1, 0)", 1, () -> moor.would(1, 0));
        Due.is("would(30, 29)", 1, () -> moor.would(30, 29));
        Due.is("would(0, 15)", 1, () -> moor.would(0, 15));
        Due.is("would(29, 30)", 1, () -> moor.would(29, 30));
    }

    private static void wouldWithSixteen() {
        Due.about("Promise 17: also with 16 cairns");
        MoorTriangles moor = fan();
        // Unfair would be 0 to 2 and 2 to 15; without 0 to 2 it is 2 to 4 for (15, 15).
        Due.is("would(25, 10)", 2, () -> moor.would(25, 10));
        Due.is("would(5, 20)", 1, () -> moor.would(5, 20));
        Due.is("would(15, 15)", 1, () -> moor.would(15, 15));
        moor.settle();
        Due.is("would(21, 0)", 0, () -> moor.would(21, 0));
        Due.is("would(0, 15)", 1, () -> moor.would(0, 15));
        Due.is("count(0)", 16, () -> moor.count(0));
        noState("a seventeenth there", moor, m -> m.build(21, 0, 0));
    }

    private static void wouldBesideAnEdgeThatStays() {
        Due.about("Promise 17: unfair, though it has to stay");
        MoorTriangles moor = new MoorTriangles();
        moor.fix(0, 2, true);
        Due.is("would(20, 10)", 1, () -> moor.would(20, 10));
        Due.is("would(10, 10)", 0, () -> moor.would(10, 10));
        edgeIs("left whole", moor, 0, 2, 1, 0, 1, 0, 0);
    }

    private static void wouldChangeNothing() {
        Due.about("Promise 17: nothing is changed");
        MoorTriangles moor = withOne();
        long before = moor.digest();
        Due.is("would(10, 20)", 1, () -> moor.would(10, 20));
        Due.is("would(10, 20) again", 1, () -> moor.would(10, 20));
        Due.is("digest()", before, moor::digest);
        Due.is("settles() behind would()", 1, moor::settles);
        Due.is("build(10, 20, 1)", 5, () -> moor.build(10, 20, 1));
        Due.is("count(5) behind building there", 1, () -> moor.count(5));
    }

    private static void wouldBeyond() {
        Due.about("Promise 17: if x or y is not 0 to 30");
        noPlaces("would", withOne(), (m, x, y) -> m.would(x, y));
        noPlaces("would with 16", fan(), (m, x, y) -> m.would(x, y));
    }

    private static void wouldUponACairn() {
        Due.about("Promise 17: if a cairn is there");
        MoorTriangles moor = withOne();
        noState("would(0, 0)", moor, m -> m.would(0, 0));
        noState("would(30, 0)", moor, m -> m.would(30, 0));
        noState("would(30, 30)", moor, m -> m.would(30, 30));
        noState("would(0, 30)", moor, m -> m.would(0, 30));
        noState("would(20, 10)", moor, m -> m.would(20, 10));
        MoorTriangles full = fan();
        noState("would(12, 0) with 16", full, m -> m.would(12, 0));
        noState("would(1, 0) with 16", full, m -> m.would(1, 0));
    }

    // ---- Promise 18

    private static void mean() {
        Due.about("Promise 18: the mean of the numbers of edges of all cairns");
        Due.is("four: 10 / 4", 2.5, () -> new MoorTriangles().mean());
        Due.is("five: 16 / 5", 16.0 / 5.0, () -> withOne().mean());
        Due.is("seven at the border: 22 / 7", 22.0 / 7.0,
                () -> with(new int[] {1, 0}, new int[] {2, 0}, new int[] {3, 0}).mean());
        Due.is("16 at the border: 58 / 16", 3.625, () -> fan().mean());
        Due.is("four of 16 at the border: 82 / 16", 5.125, () -> inside().mean());
        MoorTriangles settled = fan();
        settled.settle();
        Due.is("as many edges behind settling", 3.625, settled::mean);
    }

    // ---- Promise 19

    private static void digest() {
        digestOfANewOne();
        digestOfTheFan();
        digestOfHeightsAndEdgesThatStay();
    }

    /** Computed without a bound, and wrapped around to 64 bits at the end alone. */
    private static long wrapped(List<Integer> numbers) {
        BigInteger d = BigInteger.valueOf(1433);
        for (int x : numbers) {
            d = d.multiply(BigInteger.valueOf(31)).add(BigInteger.valueOf(x));
        }
        return d.longValue();
    }

    private static void add(List<Integer> numbers, int... some) {
        for (int x : some) {
            numbers.add(x);
        }
    }

    private static void digestOfANewOne() {
        Due.about("Promise 19: a new one");
        List<Integer> numbers = new ArrayList<>();
        add(numbers, 4, 2, 5, 4, 0, 0, 0);
        add(numbers, 0, 0, 0, 3, 2, 30, 0, 0, 2, 1, 30, 30, 0, 3, 2, 0, 30, 0, 2, 1);
        add(numbers, 0, 1, 2, 900, 0, 2, 3, 900);
        add(numbers, 0, 1, 0, 0, 0, 0, 2, 0, 0, 1, 0, 3, 0, 0, 0, 1, 2, 0, 0, 0, 2, 3, 0, 0, 0);
        Due.is("digest()", wrapped(numbers), () -> new MoorTriangles().digest());
    }

    private static void digestOfTheFan() {
        Due.about("Promise 19: 16 cairns, which wraps around as a 64-bit integer");
        List<Integer> numbers = new ArrayList<>();
        add(numbers, 16, 14, 29, 16, 0, 1, 0);
        add(numbers, 0, 0, 0, 3, 2, 30, 0, 0, 2, 1, 30, 30, 0, 15, 14, 0, 30, 0, 2, 1);
        for (int x = 1; x <= 12; x++) {
            add(numbers, x, 0, 0, 3, 2);
        }
        for (int[] triangle : fanTriangles()) {
            add(numbers, triangle);
        }
        add(numbers, 0, 2, 0, 1, 1, 0, 3, 0, 0, 0, 0, 4, 0, 0, 0);
        add(numbers, 1, 2, 0, 0, 0, 1, 15, 0, 0, 0, 2, 3, 0, 0, 0);
        for (int cairn = 4; cairn <= 15; cairn++) {
            add(numbers, 2, cairn, 0, 0, 0);
        }
        for (int cairn = 4; cairn <= 14; cairn++) {
            add(numbers, cairn, cairn + 1, 0, 0, 0);
        }
        Due.is("digest()", wrapped(numbers), () -> fan().digest());
    }

    private static void digestOfHeightsAndEdgesThatStay() {
        Due.about("Promise 19: what edge() tells of 2 to 4, what told() tells of heights, flips");
        MoorTriangles moor = new MoorTriangles();
        moor.flip(0, 2);
        moor.fix(1, 3, true);
        moor.fix(0, 1, true);
        moor.raise(3, 99);
        List<Integer> numbers = new ArrayList<>();
        add(numbers, 4, 2, 5, 4, 2, 0, 1);
        add(numbers, 0, 0, 0, 2, 1, 30, 0, 0, 3, 2, 30, 30, 0, 2, 1, 0, 30, 99, 3, 2);
        add(numbers, 0, 1, 3, 900, 1, 2, 3, 900);
        add(numbers, 0, 1, 1, 0, 0, 0, 3, 0, 0, 0, 1, 2, 0, 0, 0, 1, 3, 1, 0, 0, 2, 3, 0, 0, 0);
        Due.is("digest()", wrapped(numbers), moor::digest);
        moor.fix(1, 3, false);
        numbers.set(4, 1);
        // Edge 1 to 3 no longer has to stay, and so can be flipped.
        int edges = 7 + 20 + 8;
        numbers.set(edges + 17, 0);
        numbers.set(edges + 19, 1);
        Due.is("digest() when it no longer has to", wrapped(numbers), moor::digest);
    }

    // ---- Not promised

    private static void askingChangesNothing() {
        Due.about("Nothing beyond the state changes described: asking changes nothing");
        MoorTriangles moor = with(new int[] {30, 20}, new int[] {25, 10}, new int[] {3, 14});
        moor.fix(0, 2, true);
        moor.flip(0, 4);
        moor.raise(4, 50);
        keeps("told", moor, () -> moor.told(4, 3));
        keeps("triangle", moor, () -> moor.triangle(1, 3));
        keeps("edge", moor, () -> moor.edge(0, 2, 3));
        keeps("count", moor, () -> moor.count(5));
        keeps("at", moor, () -> moor.at(17, 9));
        keeps("height", moor, () -> moor.height(17, 9));
        keeps("nearest", moor, () -> moor.nearest(17, 9));
        keeps("circles", moor, () -> moor.circles(17, 9));
        keeps("way", moor, () -> moor.way(1, 3));
        keeps("settles", moor, moor::settles);
        keeps("would, within", moor, () -> moor.would(17, 9));
        keeps("would, on an edge that stays", moor, () -> moor.would(10, 10));
        keeps("mean", moor, moor::mean);
        keeps("digest", moor, moor::digest);
        Due.is("build(17, 9, 0)", 7, () -> moor.build(17, 9, 0));
    }

    /** Asked twice, the call answers the same, and the digest is as before. */
    private static void keeps(String name, MoorTriangles moor, Due.Call call) {
        long before = moor.digest();
        String answer = Due.outcome(call);
        Due.is(name + " again", answer, call);
        Due.is("digest() behind " + name, before, moor::digest);
    }
}
