/**
 * The boundary cases of the sentences that stand ahead of the promises, one test for each,
 * with answers worked out by hand from the document (those of the three runs of settling in
 * order by another writing of the document). No moor is asked more than 512 times.
 */
public final class TermsBoundaryTest extends Facts {
    private TermsBoundaryTest() {
    }

    public static void main(String[] args) {
        calls();
        cairns();
        triangles();
        edgesThatCanBeFlipped();
        unfairEdges();
        newCairns();
        settling();
        exceptions();
        Due.end();
    }

    // ---- at most 512 calls

    private static void calls() {
        theLastCallTells();
        theLastCallChanges();
        theLastCallIsRefused();
        nothingButFlips();
    }

    private static void theLastCallTells() {
        Due.about("At most 512 calls: the last one tells");
        MoorTriangles moor = fan();
        for (int call = 13; call <= 511; call++) {
            int height = call % 100;
            Due.is("raise(15, " + height + ") as call " + call, call == 13 ? 0 : (call - 1) % 100,
                    () -> moor.raise(15, height));
        }
        MoorTriangles same = fan();
        same.raise(15, 511 % 100);
        Due.is("digest() as call 512", Due.outcome(same::digest), moor::digest);
    }

    private static void theLastCallChanges() {
        Due.about("At most 512 calls: the last one settles");
        MoorTriangles moor = fan();
        for (int call = 13; call <= 511; call++) {
            moor.settles();
        }
        Due.is("settle() as call 512", 12, moor::settle);
    }

    private static void theLastCallIsRefused() {
        Due.about("At most 512 calls: the last one is refused");
        MoorTriangles moor = fan();
        for (int call = 13; call <= 511; call++) {
            Due.is("a seventeenth as call " + call, "throws IllegalStateException", () -> moor.build(0, 1, 0));
        }
        Due.is("would(0, 0) as call 512", "throws IllegalStateException", () -> moor.would(0, 0));
    }

    private static void nothingButFlips() {
        Due.about("At most 512 calls: 511 flips");
        MoorTriangles moor = new MoorTriangles();
        for (int call = 1; call <= 511; call++) {
            boolean odd = call % 2 == 1;
            Due.is("flip as call " + call, odd ? 19 : 2, () -> odd ? moor.flip(0, 2) : moor.flip(1, 3));
        }
        Due.is("count(6) as call 512", 511, () -> moor.count(6));
    }

    // ---- Cairns

    private static void cairns() {
        fourAtFirst();
        theSixteenthAndOneTooMany();
        notTwoAtACorner();
        notTwoAtABuiltOne();
        besideACairn();
    }

    private static void fourAtFirst() {
        Due.about("0 to 3 are there at first, each 0 high");
        MoorTriangles moor = new MoorTriangles();
        cairn("first", moor, 0, 0, 0, 0);
        cairn("first", moor, 1, 30, 0, 0);
        cairn("first", moor, 2, 30, 30, 0);
        cairn("first", moor, 3, 0, 30, 0);
        noIndex("told(4, 0)", moor, m -> m.told(4, 0));
        noIndex("told(-1, 0)", moor, m -> m.told(-1, 0));
    }

    private static void theSixteenthAndOneTooMany() {
        Due.about("There are at most 16");
        MoorTriangles moor = new MoorTriangles();
        for (int x = 1; x <= 12; x++) {
            int place = x;
            Due.is("build(" + x + ", 0, 0)", x + 3, () -> moor.build(place, 0, 0));
        }
        Due.is("count(0)", 16, () -> moor.count(0));
        noState("a seventeenth on an edge", moor, m -> m.build(13, 0, 0));
        noState("a seventeenth within a triangle", moor, m -> m.build(5, 20, 0));
        Due.is("count(0) behind a seventeenth", 16, () -> moor.count(0));
        noIndex("told(16, 0)", moor, m -> m.told(16, 0));
        cairn("sixteenth", moor, 15, 12, 0, 0, 3, 2);
    }

    private static void notTwoAtACorner() {
        Due.about("No two are at one place: not at a corner");
        int[][] corners = {{0, 0}, {30, 0}, {30, 30}, {0, 30}};
        for (int[] c : corners) {
            MoorTriangles moor = new MoorTriangles();
            noState("build(" + c[0] + ", " + c[1] + ", 5)", moor, m -> m.build(c[0], c[1], 5));
            noState("would(" + c[0] + ", " + c[1] + ")", moor, m -> m.would(c[0], c[1]));
            Due.is("the next one's number", 4, () -> moor.build(1, 1, 0));
        }
    }

    private static void notTwoAtABuiltOne() {
        Due.about("No two are at one place: not at a built one");
        MoorTriangles moor = with(new int[] {29, 30}, new int[] {1, 1}, new int[] {17, 5});
        noState("build upon one on an edge", moor, m -> m.build(29, 30, 0));
        noState("build upon the second", moor, m -> m.build(1, 1, 0));
        noState("build upon the last", moor, m -> m.build(17, 5, 0));
        Due.is("build at the last one's place with x and y changed round", 7, () -> moor.build(5, 17, 0));
    }

    private static void besideACairn() {
        Due.about("No two are at one place: but beside one another");
        int[][] places = {{1, 0}, {0, 1}, {1, 1}, {29, 0}, {30, 1}, {29, 1}, {30, 29}, {29, 30}, {29, 29}, {0, 29},
            {1, 30}, {1, 29}};
        for (int[] p : places) {
            MoorTriangles moor = new MoorTriangles();
            Due.is("build(" + p[0] + ", " + p[1] + ", 0)", 4, () -> moor.build(p[0], p[1], 0));
            cairn("built", moor, 4, p[0], p[1], 0);
        }
    }

    // ---- Triangles

    private static void triangles() {
        theSquareIsCovered();
        noneOverlaps();
        noCairnInOneButItsCorners();
        twoAtFirst();
        theSmallestTriangle();
        asFewAsThereCanBe();
        asManyAsThereCanBe();
        ascendingInAllThree();
    }

    private static int areas(MoorTriangles moor) {
        int sum = 0;
        int triangles = moor.count(1);
        for (int triangle = 0; triangle < triangles; triangle++) {
            sum += moor.triangle(triangle, 3);
        }
        return sum;
    }

    private static void theSquareIsCovered() {
        Due.about("They cover the square without overlapping");
        MoorTriangles border = fan();
        MoorTriangles inner = inside();
        Due.is("areas of a new one", 1800, () -> areas(new MoorTriangles()));
        Due.is("areas with all at the border", 1800, () -> areas(border));
        Due.is("areas with none at the border", 1800, () -> areas(inner));
        border.settle();
        inner.settle();
        Due.is("areas settled, with all at the border", 1800, () -> areas(border));
        Due.is("areas settled, with none at the border", 1800, () -> areas(inner));
    }

    /** The corners' places of each triangle, as the moor tells them: x, y, x, y, x, y. */
    private static int[][] cut(MoorTriangles moor) {
        int[][] cut = new int[moor.count(1)][6];
        for (int triangle = 0; triangle < cut.length; triangle++) {
            for (int corner = 0; corner < 3; corner++) {
                int cairn = moor.triangle(triangle, corner);
                cut[triangle][2 * corner] = moor.told(cairn, 0);
                cut[triangle][2 * corner + 1] = moor.told(cairn, 1);
            }
        }
        return cut;
    }

    /** 1 if the place is within the triangle, 0 if it is on an edge or at a corner, else -1; told by twice its x and y. */
    private static int within(int[] t, int x, int y) {
        int least = 1;
        int greatest = -1;
        for (int i = 0; i < 6; i += 2) {
            int j = (i + 2) % 6;
            int turn = (t[j] - t[i]) * (y - 2 * t[i + 1]) - (t[j + 1] - t[i + 1]) * (x - 2 * t[i]);
            least = Math.min(least, Integer.signum(turn));
            greatest = Math.max(greatest, Integer.signum(turn));
        }
        return least * greatest;
    }

    private static void noneOverlaps() {
        Due.about("They cover the square without overlapping: every place, also halfway between two");
        MoorTriangles settled = fan();
        settled.settle();
        MoorTriangles settledInside = inside();
        settledInside.settle();
        MoorTriangles[] moors = {new MoorTriangles(), withOne(), fan(), settled, inside(), settledInside, full()};
        for (MoorTriangles moor : moors) {
            int[][] cut = cut(moor);
            for (int x = 0; x <= 60; x++) {
                for (int y = 0; y <= 60; y++) {
                    oneAt(cut, x, y);
                }
            }
        }
    }

    private static void oneAt(int[][] cut, int x, int y) {
        int touched = 0;
        int within = 0;
        for (int[] triangle : cut) {
            touched += within(triangle, x, y) >= 0 ? 1 : 0;
            within += within(triangle, x, y) == 1 ? 1 : 0;
        }
        boolean once = touched == 1 || touched > 1 && within == 0;
        Due.is("once at (" + x + " / 2, " + y + " / 2)", true, () -> once);
    }

    private static void noCairnInOneButItsCorners() {
        Due.about("No cairn is in a triangle or on its edges but its corners");
        MoorTriangles settled = fan();
        settled.settle();
        MoorTriangles[] moors = {middle(), withOne(), fan(), settled, inside(), full()};
        for (MoorTriangles moor : moors) {
            int[][] cut = cut(moor);
            int cairns = moor.count(0);
            for (int cairn = 0; cairn < cairns; cairn++) {
                int x = 2 * moor.told(cairn, 0);
                int y = 2 * moor.told(cairn, 1);
                int touched = 0;
                for (int[] triangle : cut) {
                    touched += within(triangle, x, y) >= 0 ? 1 : 0;
                }
                int found = touched;
                int corner = cairn;
                // As many as have it as their corner.
                Due.is("triangles that cairn " + cairn + " touches", Due.outcome(() -> moor.told(corner, 4)),
                        () -> found);
            }
        }
    }

    private static void twoAtFirst() {
        Due.about("At first there are two");
        triangles("first", new MoorTriangles(), new int[] {0, 1, 2, 900}, new int[] {0, 2, 3, 900});
    }

    private static void theSmallestTriangle() {
        Due.about("Twice the area of three places: the smallest one is 1");
        MoorTriangles moor = with(new int[] {1, 0}, new int[] {1, 1});
        triangles("smallest, turned right", moor, new int[] {0, 3, 5, 30}, new int[] {0, 4, 5, 1},
                new int[] {1, 2, 4, 870}, new int[] {2, 3, 5, 870}, new int[] {2, 4, 5, 29});
        MoorTriangles other = with(new int[] {0, 1}, new int[] {1, 1});
        triangles("smallest, turned left", other, new int[] {0, 1, 5, 30}, new int[] {0, 4, 5, 1},
                new int[] {1, 2, 5, 870}, new int[] {2, 3, 4, 870}, new int[] {2, 4, 5, 29});
    }

    private static void asFewAsThereCanBe() {
        Due.about("Triangles are numbered by a, then by b, then by c: 14 of 16 cairns");
        triangles("all at the border", fan(), fanTriangles());
    }

    private static void asManyAsThereCanBe() {
        Due.about("Triangles are numbered by a, then by b, then by c: 26 of 16 cairns");
        MoorTriangles moor = inside();
        Due.is("count(1)", 26, () -> moor.count(1));
        int before = -1;
        for (int triangle = 0; triangle < 26; triangle++) {
            int a = moor.triangle(triangle, 0);
            int b = moor.triangle(triangle, 1);
            int c = moor.triangle(triangle, 2);
            int code = (a * 16 + b) * 16 + c;
            boolean behind = code > before;
            Due.is("triangle " + triangle + " ascends", true, () -> a < b && b < c);
            Due.is("triangle " + triangle + " is behind the one before", true, () -> behind);
            before = code;
        }
    }

    private static void ascendingInAllThree() {
        Due.about("Triangles are numbered by a, then by b, then by c: the same a and b twice");
        MoorTriangles moor = new MoorTriangles();
        moor.flip(0, 2);
        triangles("0 to 1, then 1 to 3", moor, new int[] {0, 1, 3, 900}, new int[] {1, 2, 3, 900});
        moor.flip(1, 3);
        moor.build(10, 20, 0);
        moor.build(20, 10, 0);
        triangles("0 to 2 with 4 and with 5", moor, new int[] {0, 1, 5, 300}, new int[] {0, 2, 4, 300},
                new int[] {0, 2, 5, 300}, new int[] {0, 3, 4, 300}, new int[] {1, 2, 5, 300},
                new int[] {2, 3, 4, 300});
    }

    // ---- An edge can be flipped

    private static void edgesThatCanBeFlipped() {
        betweenCornersOfATriangle();
        fromBothEnds();
        notABorderEdge();
        notOneThatHasToStay();
        notWithACornerOf180();
        notWithACornerAbove180();
        justBelow180();
        withAnAreaOfOne();
        flippedThereAndBack();
    }

    private static void betweenCornersOfATriangle() {
        Due.about("Between two corners of some triangle; a border edge, if of one alone, otherwise of two");
        MoorTriangles settled = fan();
        settled.settle();
        MoorTriangles[] moors = {new MoorTriangles(), middle(), fan(), settled, inside(), full()};
        for (MoorTriangles moor : moors) {
            int cairns = moor.count(0);
            int[][] triangles = new int[cairns][cairns];
            int count = moor.count(1);
            for (int triangle = 0; triangle < count; triangle++) {
                int a = moor.triangle(triangle, 0);
                int b = moor.triangle(triangle, 1);
                int c = moor.triangle(triangle, 2);
                triangles[a][b]++;
                triangles[a][c]++;
                triangles[b][c]++;
            }
            for (int a = 0; a < cairns; a++) {
                for (int b = a + 1; b < cairns; b++) {
                    int from = a;
                    int to = b;
                    int of = triangles[a][b];
                    Due.is("edge(" + a + ", " + b + ", 0)", of > 0 ? 1 : 0, () -> moor.edge(from, to, 0));
                    Due.is("edge(" + b + ", " + a + ", 1)", of == 1 ? 1 : 0, () -> moor.edge(to, from, 1));
                    Due.is("triangles of " + a + " to " + b + " are two at most", true, () -> of <= 2);
                }
            }
        }
    }

    private static void fromBothEnds() {
        Due.about("An edge is between two cairns, whichever is named first");
        MoorTriangles moor = fan();
        edgeIs("inner", moor, 0, 2, 1, 0, 0, 1, 1);
        edgeIs("border", moor, 14, 15, 1, 1, 0, 0, 0);
        edgeIs("border", moor, 1, 15, 1, 1, 0, 0, 0);
        edgeIs("no longer there", moor, 0, 1, 0, 0, 0, 0, 0);
        edgeIs("not there", moor, 4, 15, 0, 0, 0, 0, 0);
        edgeIs("no edge to itself", moor, 15, 15, 0, 0, 0, 0, 0);
    }

    private static void notABorderEdge() {
        Due.about("An edge can be flipped, if it is no border edge");
        MoorTriangles moor = new MoorTriangles();
        int[][] sides = {{0, 1}, {1, 2}, {2, 3}, {3, 0}};
        for (int[] s : sides) {
            edgeIs("a side", moor, s[0], s[1], 1, 1, 0, 0, 0);
            noState("flip(" + s[0] + ", " + s[1] + ")", moor, m -> m.flip(s[0], s[1]));
        }
    }

    private static void notOneThatHasToStay() {
        Due.about("An edge can be flipped, if it does not have to stay");
        MoorTriangles moor = new MoorTriangles();
        moor.fix(2, 0, true);
        edgeIs("stays", moor, 0, 2, 1, 0, 1, 0, 0);
        noState("flip(0, 2)", moor, m -> m.flip(0, 2));
        noState("flip(2, 0)", moor, m -> m.flip(2, 0));
        moor.fix(0, 2, false);
        edgeIs("no longer stays", moor, 0, 2, 1, 0, 0, 0, 1);
        Due.is("flip(0, 2)", 19, () -> moor.flip(0, 2));
    }

    private static void notWithACornerOf180() {
        Due.about("Without a corner of 180 degrees");
        MoorTriangles middle = middle();
        for (int corner = 0; corner < 4; corner++) {
            int other = corner;
            edgeIs("4 is between two corners", middle, other, 4, 1, 0, 0, 0, 0);
            noState("flip(" + other + ", 4)", middle, m -> m.flip(other, 4));
        }
        MoorTriangles border = fan();
        edgeIs("4 is between 0 and 5", border, 2, 4, 1, 0, 0, 0, 0);
        edgeIs("15 is between 14 and 1", border, 15, 2, 1, 0, 0, 0, 0);
        noState("flip(2, 4)", border, m -> m.flip(2, 4));
        noState("flip(15, 2)", border, m -> m.flip(15, 2));
    }

    private static void notWithACornerAbove180() {
        Due.about("Without a corner of more than 180 degrees");
        MoorTriangles below = with(new int[] {14, 14});
        edgeIs("4 is before the line from 1 to 3", below, 0, 4, 1, 0, 0, 0, 0);
        noState("flip(0, 4)", below, m -> m.flip(0, 4));
        MoorTriangles above = with(new int[] {16, 16});
        edgeIs("4 is behind the line from 1 to 3", above, 2, 4, 1, 0, 0, 0, 0);
        noState("flip(4, 2)", above, m -> m.flip(4, 2));
    }

    private static void justBelow180() {
        Due.about("A corner of just less than 180 degrees");
        MoorTriangles below = with(new int[] {14, 14});
        edgeIs("4 is before the line from 1 to 3", below, 2, 4, 1, 0, 0, 0, 1);
        Due.is("flip(2, 4)", 16 * 1 + 3, () -> below.flip(2, 4));
        triangles("flipped below", below, new int[] {0, 1, 4, 420}, new int[] {0, 3, 4, 420},
                new int[] {1, 2, 3, 900}, new int[] {1, 3, 4, 60});
        MoorTriangles above = with(new int[] {16, 16});
        edgeIs("4 is behind the line from 1 to 3", above, 0, 4, 1, 0, 0, 0, 1);
        Due.is("flip(4, 0)", 16 * 1 + 3, () -> above.flip(4, 0));
        triangles("flipped above", above, new int[] {0, 1, 3, 900}, new int[] {1, 2, 4, 420},
                new int[] {1, 3, 4, 60}, new int[] {2, 3, 4, 420});
    }

    private static void withAnAreaOfOne() {
        Due.about("Each of the two triangles has an area greater than 0: twice the area is 1");
        MoorTriangles moor = with(new int[] {1, 0}, new int[] {1, 1});
        edgeIs("fair, but can be flipped", moor, 0, 5, 1, 0, 0, 0, 1);
        Due.is("flip(0, 5)", 16 * 3 + 4, () -> moor.flip(0, 5));
        triangles("flipped", moor, new int[] {0, 3, 4, 30}, new int[] {1, 2, 4, 870}, new int[] {2, 3, 5, 870},
                new int[] {2, 4, 5, 29}, new int[] {3, 4, 5, 1});
        MoorTriangles other = with(new int[] {0, 1}, new int[] {1, 1});
        Due.is("flip(0, 5)", 16 * 1 + 4, () -> other.flip(0, 5));
        triangles("flipped the other way round", other, new int[] {0, 1, 4, 30}, new int[] {1, 2, 5, 870},
                new int[] {1, 4, 5, 1}, new int[] {2, 3, 4, 870}, new int[] {2, 4, 5, 29});
        edgeIs("flipped away", other, 0, 5, 0, 0, 0, 0, 0);
    }

    private static void flippedThereAndBack() {
        Due.about("The two triangles are replaced by c, d, a and c, d, b");
        MoorTriangles moor = withOne();
        moor.flip(0, 2);
        edgeIs("flipped away", moor, 0, 2, 0, 0, 0, 0, 0);
        edgeIs("flipped to", moor, 3, 4, 1, 0, 0, 0, 1);
        noState("flip of the one that was flipped away", moor, m -> m.flip(0, 2));
        Due.is("flip back", 2, () -> moor.flip(3, 4));
        triangles("flipped back", moor, new int[] {0, 1, 4, 300}, new int[] {0, 2, 3, 900},
                new int[] {0, 2, 4, 300}, new int[] {1, 2, 4, 300});
    }

    // ---- An edge is unfair

    private static void unfairEdges() {
        onTheCircle();
        justWithinAndJustOutside();
        theBorderIsFair();
        alsoIfItHasToStay();
        unfairOnesCanBeFlipped();
    }

    private static void onTheCircle() {
        Due.about("Within the circle (not on it)");
        MoorTriangles moor = new MoorTriangles();
        edgeIs("four corners on one circle", moor, 0, 2, 1, 0, 0, 0, 1);
        moor.flip(0, 2);
        edgeIs("four corners on one circle", moor, 1, 3, 1, 0, 0, 0, 1);
        Due.is("count(5)", 0, () -> moor.count(5));
        // The circle through 0, 1 and 4 has its centre at (15, -5); its radius squared is 250.
        MoorTriangles one = with(new int[] {20, 10}, new int[] {10, 10});
        edgeIs("1 and 5 on one circle with 0 and 4", one, 0, 4, 1, 0, 0, 0, 1);
    }

    private static void justWithinAndJustOutside() {
        Due.about("Within the circle, or outside it");
        // From (15, -5) it is 232 to (9, 9), and 272 to (11, 11), with 250 on the circle.
        edgeIs("5 within", with(new int[] {20, 10}, new int[] {9, 9}), 0, 4, 1, 0, 0, 1, 1);
        edgeIs("5 outside", with(new int[] {20, 10}, new int[] {11, 11}), 0, 4, 1, 0, 0, 0, 1);
        // The circle through 0, 3 and (15, 15) has its centre at (0, 15); to (1, 0) it is 226, with 225 on it.
        edgeIs("4 outside", with(new int[] {1, 0}, new int[] {15, 15}), 0, 5, 1, 0, 0, 0, 1);
        // The circle through 3, 4 and 5 has its centre at (9 / 4, 28); to 6 it is 137 / 16, with 145 / 16 on it.
        edgeIs("6 within by a hair", with(new int[] {2, 25}, new int[] {0, 26}, new int[] {5, 27}), 3, 4,
                1, 0, 0, 1, 1);
        // With all taken from 6: 37 * 202 + 580 * 154 - 1241 * 78 is -4, and would be 0 on the circle of 2, 4 and 5.
        edgeIs("6 outside by a hair", with(new int[] {4, 0}, new int[] {28, 17}, new int[] {10, 1}), 4, 5,
                1, 0, 0, 0, 1);
    }

    private static void theBorderIsFair() {
        Due.about("An edge is unfair, if it is no border edge");
        MoorTriangles moor = withOne();
        edgeIs("border", moor, 0, 1, 1, 1, 0, 0, 0);
        edgeIs("border", moor, 1, 2, 1, 1, 0, 0, 0);
        edgeIs("border", moor, 2, 3, 1, 1, 0, 0, 0);
        Due.is("count(5)", 1, () -> moor.count(5));
    }

    private static void alsoIfItHasToStay() {
        Due.about("An edge that has to stay may be unfair");
        MoorTriangles moor = withOne();
        moor.fix(0, 2, true);
        edgeIs("unfair and stays", moor, 0, 2, 1, 0, 1, 1, 0);
        Due.is("count(5)", 1, () -> moor.count(5));
    }

    private static void unfairOnesCanBeFlipped() {
        Due.about("An unfair edge that does not have to stay can always be flipped");
        MoorTriangles moor = inside();
        for (int a = 0; a < 16; a++) {
            for (int b = a + 1; b < 16; b++) {
                if (moor.edge(a, b, 3) == 1) {
                    int from = a;
                    int to = b;
                    Due.is("edge(" + a + ", " + b + ", 4)", 1, () -> moor.edge(from, to, 4));
                }
            }
        }
    }

    // ---- A new cairn

    private static void newCairns() {
        withinBesideAnEdge();
        onAnInnerEdge();
        onEachSide();
        onTheLineOfAnEdge();
        onAPartOfAnEdge();
        onAnEdgeThatHasToStay();
        onABorderEdgeThatHasToStay();
        onAnEdgeThatNoLongerHasToStay();
        amidEdgesThatHaveToStay();
        noEdgeIsFlipped();
    }

    private static void withinBesideAnEdge() {
        Due.about("If it lies within a triangle: one step beside an edge");
        triangles("below", with(new int[] {15, 14}), new int[] {0, 1, 4, 420}, new int[] {0, 2, 3, 900},
                new int[] {0, 2, 4, 30}, new int[] {1, 2, 4, 450});
        triangles("above", with(new int[] {15, 16}), new int[] {0, 1, 2, 900}, new int[] {0, 2, 4, 30},
                new int[] {0, 3, 4, 450}, new int[] {2, 3, 4, 420});
        triangles("beside the border", with(new int[] {29, 28}), new int[] {0, 1, 4, 840}, new int[] {0, 2, 3, 900},
                new int[] {0, 2, 4, 30}, new int[] {1, 2, 4, 30});
    }

    private static void onAnInnerEdge() {
        Due.about("If it lies on an edge: on an inner one, one step beside its ends");
        triangles("at the one end", with(new int[] {1, 1}), new int[] {0, 1, 4, 30}, new int[] {0, 3, 4, 30},
                new int[] {1, 2, 4, 870}, new int[] {2, 3, 4, 870});
        MoorTriangles other = with(new int[] {29, 29});
        triangles("at the other end", other, new int[] {0, 1, 4, 870}, new int[] {0, 3, 4, 870},
                new int[] {1, 2, 4, 30}, new int[] {2, 3, 4, 30});
        edgeIs("cut", other, 0, 2, 0, 0, 0, 0, 0);
        counts("at the other end", other, 5, 4, 8, 4, 0, 0, 0);
    }

    private static void onEachSide() {
        Due.about("If it lies on an edge: on a border edge");
        MoorTriangles low = with(new int[] {1, 0});
        triangles("(1, 0)", low, new int[] {0, 2, 3, 900}, new int[] {0, 2, 4, 30}, new int[] {1, 2, 4, 870});
        edgeIs("(1, 0)", low, 0, 1, 0, 0, 0, 0, 0);
        edgeIs("(1, 0)", low, 0, 4, 1, 1, 0, 0, 0);
        edgeIs("(1, 0)", low, 4, 1, 1, 1, 0, 0, 0);
        counts("(1, 0)", low, 5, 3, 7, 5, 0, 1, 0);
        triangles("(30, 29)", with(new int[] {30, 29}), new int[] {0, 1, 4, 870}, new int[] {0, 2, 3, 900},
                new int[] {0, 2, 4, 30});
        triangles("(1, 30)", with(new int[] {1, 30}), new int[] {0, 1, 2, 900}, new int[] {0, 2, 4, 870},
                new int[] {0, 3, 4, 30});
        triangles("(0, 29)", with(new int[] {0, 29}), new int[] {0, 1, 2, 900}, new int[] {0, 2, 4, 870},
                new int[] {2, 3, 4, 30});
    }

    private static void onTheLineOfAnEdge() {
        Due.about("If it lies within a triangle: on the line of an edge, but behind its end");
        // (22, 11) and (24, 12) lie on the line from 0 to 4, which ends at (20, 10).
        MoorTriangles moor = with(new int[] {20, 10}, new int[] {22, 11});
        triangles("behind the end", moor, new int[] {0, 1, 4, 300}, new int[] {0, 2, 3, 900},
                new int[] {0, 2, 4, 300}, new int[] {1, 2, 5, 240}, new int[] {1, 4, 5, 30},
                new int[] {2, 4, 5, 30});
        edgeIs("left whole", moor, 0, 4, 1, 0, 0, 0, 0);
        Due.is("the next one behind that", 6, () -> moor.build(24, 12, 0));
        edgeIs("left whole", moor, 4, 5, 1, 0, 0, 0, 0);
        edgeIs("across the gap", moor, 4, 6, 0, 0, 0, 0, 0);
        counts("behind the end", moor, 7, 8, 14, 4);
    }

    private static void onAPartOfAnEdge() {
        Due.about("If it lies on an edge: on a part of one that was cut");
        MoorTriangles moor = with(new int[] {15, 15}, new int[] {14, 14}, new int[] {16, 16});
        triangles("three on one line", moor, new int[] {0, 1, 5, 420}, new int[] {0, 3, 5, 420},
                new int[] {1, 2, 6, 420}, new int[] {1, 4, 5, 30}, new int[] {1, 4, 6, 30},
                new int[] {2, 3, 6, 420}, new int[] {3, 4, 5, 30}, new int[] {3, 4, 6, 30});
        edgeIs("cut", moor, 0, 4, 0, 0, 0, 0, 0);
        edgeIs("cut", moor, 2, 4, 0, 0, 0, 0, 0);
    }

    private static void onAnEdgeThatHasToStay() {
        Due.about("If the edge had to stay, both its parts have to");
        MoorTriangles moor = new MoorTriangles();
        moor.fix(0, 2, true);
        moor.build(20, 20, 0);
        edgeIs("the one part", moor, 0, 4, 1, 0, 1, 0, 0);
        edgeIs("the other part", moor, 2, 4, 1, 0, 1, 0, 0);
        edgeIs("across", moor, 1, 4, 1, 0, 0, 0, 0);
        edgeIs("across", moor, 3, 4, 1, 0, 0, 0, 0);
        edgeIs("the whole one", moor, 0, 2, 0, 0, 0, 0, 0);
        Due.is("count(4)", 2, () -> moor.count(4));
        // Without having to stay 0 to 4 could be flipped: its corners are 0, 1, 4 and 3.
        Due.is("fix(0, 4, false)", true, () -> moor.fix(0, 4, false));
        edgeIs("the one part", moor, 0, 4, 1, 0, 0, 0, 1);
        edgeIs("the other part stays", moor, 2, 4, 1, 0, 1, 0, 0);
    }

    private static void onABorderEdgeThatHasToStay() {
        Due.about("If the edge had to stay, both its parts have to: thirteen parts of a border edge");
        MoorTriangles moor = new MoorTriangles();
        moor.fix(1, 0, true);
        for (int x = 1; x <= 12; x++) {
            moor.build(x, 0, 0);
        }
        Due.is("count(4)", 13, () -> moor.count(4));
        edgeIs("the first part", moor, 0, 4, 1, 1, 1, 0, 0);
        edgeIs("an inner part", moor, 9, 10, 1, 1, 1, 0, 0);
        edgeIs("the last part", moor, 15, 1, 1, 1, 1, 0, 0);
        edgeIs("a new one", moor, 2, 15, 1, 0, 0, 0, 0);
    }

    private static void onAnEdgeThatNoLongerHasToStay() {
        Due.about("If the edge had to stay: it no longer has to");
        MoorTriangles moor = new MoorTriangles();
        moor.fix(0, 2, true);
        moor.fix(0, 2, false);
        moor.build(10, 10, 0);
        Due.is("count(4)", 0, () -> moor.count(4));
        edgeIs("a part", moor, 0, 4, 1, 0, 0, 0, 0);
    }

    private static void amidEdgesThatHaveToStay() {
        Due.about("Edges around it stay as they were; new ones do not have to stay");
        MoorTriangles moor = new MoorTriangles();
        moor.fix(0, 1, true);
        moor.fix(1, 2, true);
        moor.fix(0, 2, true);
        moor.build(20, 10, 0);
        edgeIs("around", moor, 0, 1, 1, 1, 1, 0, 0);
        edgeIs("around", moor, 1, 2, 1, 1, 1, 0, 0);
        edgeIs("around", moor, 0, 2, 1, 0, 1, 1, 0);
        edgeIs("new", moor, 0, 4, 1, 0, 0, 0, 0);
        edgeIs("new", moor, 1, 4, 1, 0, 0, 0, 0);
        edgeIs("new", moor, 2, 4, 1, 0, 0, 0, 0);
        Due.is("count(4)", 3, () -> moor.count(4));
    }

    private static void noEdgeIsFlipped() {
        Due.about("No edge is flipped by that");
        MoorTriangles moor = fan();
        counts("with an unfair edge", moor, 16, 14, 29, 16, 0, 1, 0);
        edgeIs("left unfair", moor, 0, 2, 1, 0, 0, 1, 1);
    }

    // ---- Settling

    private static void settling() {
        nothingToSettle();
        allUnfairOnesStay();
        theSmallestNumberFirst();
        theSmallestOtherOneNext();
        fromTheStartAgain();
        pastOneThatStays();
        oneFlipMakesTheNext();
    }

    private static void nothingToSettle() {
        Due.about("As long as some edge is unfair: none is");
        MoorTriangles moor = new MoorTriangles();
        long before = moor.digest();
        Due.is("settle()", 0, moor::settle);
        Due.is("digest()", before, moor::digest);
        MoorTriangles middle = middle();
        Due.is("settle() with 15 at the centre", 0, middle::settle);
    }

    private static void allUnfairOnesStay() {
        Due.about("As long as some edge is unfair, and does not have to stay: all have to");
        MoorTriangles moor = fan();
        moor.fix(0, 2, true);
        long before = moor.digest();
        Due.is("settle()", 0, moor::settle);
        Due.is("digest()", before, moor::digest);
        Due.is("count(5)", 1, () -> moor.count(5));
    }

    private static void theSmallestNumberFirst() {
        Due.about("The one with the smallest number of a cairn");
        // Unfair are 0 to 5, 2 to 6 and 3 to 4: in this order there are four flips, otherwise five.
        MoorTriangles moor = with(new int[] {3, 14}, new int[] {22, 20}, new int[] {7, 7}, new int[] {2, 16});
        edgeIs("unfair", moor, 0, 5, 1, 0, 0, 1, 1);
        edgeIs("unfair", moor, 2, 6, 1, 0, 0, 1, 1);
        edgeIs("unfair", moor, 3, 4, 1, 0, 0, 1, 1);
        Due.is("count(5)", 3, () -> moor.count(5));
        Due.is("settle()", 4, moor::settle);
        triangles("settled", moor, new int[] {0, 1, 6}, new int[] {0, 3, 7}, new int[] {0, 4, 6},
                new int[] {0, 4, 7}, new int[] {1, 2, 5}, new int[] {1, 5, 6}, new int[] {2, 3, 5},
                new int[] {3, 5, 7}, new int[] {4, 5, 6}, new int[] {4, 5, 7});
    }

    private static void theSmallestOtherOneNext() {
        Due.about("Of several that with the smallest other one");
        // Unfair are 0 to 2 and 0 to 4: with 0 to 4 flipped first there would be three flips.
        MoorTriangles moor = with(new int[] {30, 20}, new int[] {25, 10});
        edgeIs("unfair", moor, 0, 2, 1, 0, 0, 1, 1);
        edgeIs("unfair", moor, 0, 4, 1, 0, 0, 1, 1);
        Due.is("count(5)", 2, () -> moor.count(5));
        Due.is("settle()", 2, moor::settle);
        triangles("settled", moor, new int[] {0, 1, 5}, new int[] {0, 3, 5}, new int[] {1, 4, 5},
                new int[] {2, 3, 4}, new int[] {3, 4, 5});
    }

    private static void fromTheStartAgain() {
        Due.about("As long as some edge is unfair, the smallest one of these: one before the last flipped one");
        // Behind 0 to 2 and 2 to 4 follow 1 to 4, 4 to 5 and 0 to 5; going on from 2 to 4 makes one flip less.
        MoorTriangles moor = with(new int[] {0, 25}, new int[] {20, 30}, new int[] {15, 30});
        Due.is("settle()", 5, moor::settle);
        triangles("settled", moor, new int[] {0, 1, 6}, new int[] {0, 4, 6}, new int[] {1, 2, 5},
                new int[] {1, 5, 6}, new int[] {3, 4, 6});
    }

    private static void pastOneThatStays() {
        Due.about("And does not have to stay: a greater one is flipped past it");
        MoorTriangles moor = with(new int[] {30, 20}, new int[] {25, 10});
        moor.fix(0, 2, true);
        Due.is("settle()", 1, moor::settle);
        edgeIs("stays", moor, 0, 2, 1, 0, 1, 1, 0);
        edgeIs("flipped", moor, 0, 4, 0, 0, 0, 0, 0);
        edgeIs("flipped to", moor, 2, 5, 1, 0, 0, 0, 1);
        Due.is("count(5)", 1, () -> moor.count(5));
        Due.is("settle() again", 0, moor::settle);
    }

    private static void oneFlipMakesTheNext() {
        Due.about("As long as some edge is unfair: each flip makes the next one unfair");
        MoorTriangles moor = fan();
        Due.is("count(5)", 1, () -> moor.count(5));
        Due.is("settle()", 12, moor::settle);
        triangles("settled", moor, new int[] {0, 3, 4, 30}, new int[] {1, 2, 15, 540}, new int[] {2, 3, 15, 900},
                new int[] {3, 4, 5, 30}, new int[] {3, 5, 6, 30}, new int[] {3, 6, 7, 30}, new int[] {3, 7, 8, 30},
                new int[] {3, 8, 9, 30}, new int[] {3, 9, 10, 30}, new int[] {3, 10, 11, 30},
                new int[] {3, 11, 12, 30}, new int[] {3, 12, 13, 30}, new int[] {3, 13, 14, 30},
                new int[] {3, 14, 15, 30});
        counts("settled", moor, 16, 14, 29, 16, 0, 0, 12);
    }

    // ---- Exceptions

    private static void exceptions() {
        theOneThatIsNamedFirst();
        refusedCallsChangeNothing();
    }

    private static void theOneThatIsNamedFirst() {
        Due.about("If several exceptions apply, the one that is named first is thrown");
        MoorTriangles moor = fan();
        noArgument("build: 16 are there, and x too great", moor, m -> m.build(31, 5, 0));
        noArgument("build: 16 are there, and y too small", moor, m -> m.build(5, -1, 0));
        noArgument("build: 16 are there, and height too great", moor, m -> m.build(5, 5, 100));
        noArgument("build: one is there, and height too small", moor, m -> m.build(0, 0, -1));
        noArgument("build: all at once", moor, m -> m.build(-1, 31, 100));
        noState("build: 16 are there, and one is there", moor, m -> m.build(12, 0, 99));
        noIndex("raise: no such cairn, and height too great", moor, m -> m.raise(16, 100));
        noIndex("raise: no such cairn, and height too small", moor, m -> m.raise(-1, -1));
        noIndex("fix: no such cairn, thus no edge", moor, m -> m.fix(0, 16, true));
        noIndex("fix: no such cairn twice, thus no edge", moor, m -> m.fix(16, 16, true));
        noIndex("flip: no such cairn, thus no edge", moor, m -> m.flip(-1, 2));
        noIndex("flip: no such cairn twice, thus no edge", moor, m -> m.flip(-1, -1));
        noState("flip: no edge, which cannot be flipped", moor, m -> m.flip(15, 15));
    }

    private static void refusedCallsChangeNothing() {
        Due.about("A method that throws an exception changes nothing");
        MoorTriangles calm = new MoorTriangles();
        MoorTriangles bothered = new MoorTriangles();
        changes(calm, false);
        changes(bothered, true);
        Due.is("digest()", Due.outcome(calm::digest), bothered::digest);
        Due.is("settles()", Due.outcome(calm::settles), bothered::settles);
        for (int x = 0; x <= 30; x += 3) {
            for (int y = 0; y <= 30; y += 5) {
                int px = x;
                int py = y;
                Due.is("at", Due.outcome(() -> calm.at(px, py)), () -> bothered.at(px, py));
                Due.is("height", Due.outcome(() -> calm.height(px, py)), () -> bothered.height(px, py));
                Due.is("would", Due.outcome(() -> calm.would(px, py)), () -> bothered.would(px, py));
            }
        }
        Due.is("the next one's number", Due.outcome(() -> calm.build(3, 29, 7)), () -> bothered.build(3, 29, 7));
    }

    private static void changes(MoorTriangles moor, boolean bother) {
        moor.build(20, 10, 40);
        botherIf(bother, moor);
        moor.fix(0, 2, true);
        botherIf(bother, moor);
        moor.build(10, 10, 99);
        botherIf(bother, moor);
        moor.raise(4, 17);
        botherIf(bother, moor);
        moor.build(0, 7, 3);
        moor.settle();
        botherIf(bother, moor);
    }

    private static void botherIf(boolean bother, MoorTriangles moor) {
        if (bother) {
            int none = moor.count(0);
            Due.outcome(() -> moor.build(20, 10, 1));
            Due.outcome(() -> moor.build(5, 6, 100));
            Due.outcome(() -> moor.build(31, 6, 1));
            Due.outcome(() -> moor.raise(4, 100));
            Due.outcome(() -> moor.raise(none, 1));
            Due.outcome(() -> moor.fix(1, 3, true));
            Due.outcome(() -> moor.fix(0, none, true));
            Due.outcome(() -> moor.flip(0, 1));
            Due.outcome(() -> moor.flip(none, 1));
            Due.outcome(() -> moor.would(20, 10));
            Due.outcome(() -> moor.would(5, 31));
        }
    }
}
