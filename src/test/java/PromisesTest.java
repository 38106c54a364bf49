/** The document's promises one by one, with answers worked out by hand. */
public final class PromisesTest extends Facts {
    private PromisesTest() {
    }

    public static void main(String[] args) {
        aNewObject();
        build();
        buildOnEdges();
        buildThrows();
        raise();
        fix();
        flip();
        flipThrows();
        settle();
        settleInOrder();
        told();
        triangle();
        edge();
        count();
        at();
        height();
        nearest();
        circles();
        way();
        settles();
        would();
        mean();
        digest();
        Due.end();
    }

    // ---- Promise 1

    private static void aNewObject() {
        MoorTriangles moor = new MoorTriangles();
        counts("new", moor, 4, 2, 5, 4, 0, 0, 0);
        cairn("new", moor, 0, 0, 0, 0, 3, 2);
        cairn("new", moor, 1, 30, 0, 0, 2, 1);
        cairn("new", moor, 2, 30, 30, 0, 3, 2);
        cairn("new", moor, 3, 0, 30, 0, 2, 1);
        triangles("new", moor, new int[] {0, 1, 2, 900}, new int[] {0, 2, 3, 900});
        MoorTriangles other = new MoorTriangles();
        other.build(1, 1, 1);
        Due.is("a moor beside another one: count(0)", 4, () -> moor.count(0));
    }

    // ---- Promise 2

    private static void build() {
        MoorTriangles moor = new MoorTriangles();
        Due.is("build(20, 10, 40)", 4, () -> moor.build(20, 10, 40));
        counts("build within", moor, 5, 4, 8, 4, 0, 1, 0);
        cairn("build within", moor, 4, 20, 10, 40, 3, 3);
        triangles("build within", moor, new int[] {0, 1, 4, 300}, new int[] {0, 2, 3, 900},
                new int[] {0, 2, 4, 300}, new int[] {1, 2, 4, 300});
        Due.is("build(1, 2, 0)", 5, () -> moor.build(1, 2, 0));
        Due.is("build(2, 1, 99)", 6, () -> moor.build(2, 1, 99));
        Due.is("told(6, 2)", 99, () -> moor.told(6, 2));
        MoorTriangles fixed = new MoorTriangles();
        fixed.fix(0, 2, true);
        fixed.fix(0, 1, true);
        fixed.build(20, 10, 0);
        Due.is("edges that stay around a new cairn", 2, () -> fixed.count(4));
        edgeIs("edges that stay around a new cairn", fixed, 0, 2, 1, 0, 1, 1, 0);
        edgeIs("new ones do not have to stay", fixed, 0, 4, 1, 0, 0, 0, 0);
    }

    private static void buildOnEdges() {
        MoorTriangles inner = new MoorTriangles();
        Due.is("build(10, 10, 7)", 4, () -> inner.build(10, 10, 7));
        counts("build on an edge", inner, 5, 4, 8, 4, 0, 0, 0);
        triangles("build on an edge", inner, new int[] {0, 1, 4, 300}, new int[] {0, 3, 4, 300},
                new int[] {1, 2, 4, 600}, new int[] {2, 3, 4, 600});
        edgeIs("build on an edge", inner, 0, 2, 0, 0, 0, 0, 0);
        edgeIs("build on an edge", inner, 0, 4, 1, 0, 0, 0, 0);
        edgeIs("build on an edge", inner, 1, 4, 1, 0, 0, 0, 0);

        MoorTriangles border = new MoorTriangles();
        border.fix(0, 1, true);
        Due.is("build(15, 0, 7)", 4, () -> border.build(15, 0, 7));
        counts("build on a border edge", border, 5, 3, 7, 5, 2, 1, 0);
        triangles("build on a border edge", border, new int[] {0, 2, 3, 900}, new int[] {0, 2, 4, 450},
                new int[] {1, 2, 4, 450});
        edgeIs("build on a border edge", border, 0, 4, 1, 1, 1, 0, 0);
        edgeIs("build on a border edge", border, 1, 4, 1, 1, 1, 0, 0);
        edgeIs("build on a border edge", border, 2, 4, 1, 0, 0, 0, 0);
        edgeIs("build on a border edge", border, 0, 1, 0, 0, 0, 0, 0);

        MoorTriangles stays = new MoorTriangles();
        stays.fix(0, 2, true);
        stays.build(10, 10, 0);
        stays.build(20, 20, 0);
        Due.is("parts of an edge that had to stay", 3, () -> stays.count(4));
        edgeIs("parts of an edge that had to stay", stays, 0, 4, 1, 0, 1, 0, 0);
        edgeIs("parts of an edge that had to stay", stays, 4, 5, 1, 0, 1, 0, 0);
        edgeIs("parts of an edge that had to stay", stays, 2, 5, 1, 0, 1, 0, 0);
        edgeIs("across an edge that had to stay", stays, 1, 4, 1, 0, 0, 0, 0);
    }

    private static void buildThrows() {
        MoorTriangles moor = withOne();
        for (int no : NO_COORDINATES) {
            noArgument("build(" + no + ", 5, 5)", moor, m -> m.build(no, 5, 5));
            noArgument("build(5, " + no + ", 5)", moor, m -> m.build(5, no, 5));
        }
        for (int no : NO_HEIGHTS) {
            noArgument("build(5, 5, " + no + ")", moor, m -> m.build(5, 5, no));
            noArgument("build(20, 10, " + no + ") upon a cairn", moor, m -> m.build(20, 10, no));
        }
        noState("build(20, 10, 0) upon a cairn", moor, m -> m.build(20, 10, 0));
        noState("build(30, 30, 99) upon a cairn", moor, m -> m.build(30, 30, 99));
        Due.is("build(30, 0, 0) upon a cairn", "throws IllegalStateException", () -> moor.build(30, 0, 0));
        Due.is("build(30, 1, 99)", 5, () -> moor.build(30, 1, 99));
        MoorTriangles full = full();
        Due.is("full: count(0)", 16, () -> full.count(0));
        noState("a seventeenth", full, m -> m.build(0, 1, 0));
        noArgument("a seventeenth outside", full, m -> m.build(0, 31, 0));
        noArgument("a seventeenth too high", full, m -> m.build(0, 1, 100));
    }

    // ---- Promise 3

    private static void raise() {
        MoorTriangles moor = withOne();
        Due.is("raise(4, 99)", 40, () -> moor.raise(4, 99));
        Due.is("raise(4, 0)", 99, () -> moor.raise(4, 0));
        Due.is("raise(0, 12)", 0, () -> moor.raise(0, 12));
        Due.is("told(0, 2)", 12, () -> moor.told(0, 2));
        Due.is("told(4, 2)", 0, () -> moor.told(4, 2));
        Due.is("told(1, 2)", 0, () -> moor.told(1, 2));
        for (int no : new int[] {-1, 5, 16, Integer.MIN_VALUE, Integer.MAX_VALUE}) {
            noIndex("raise(" + no + ", 1)", moor, m -> m.raise(no, 1));
            noIndex("raise(" + no + ", 100)", moor, m -> m.raise(no, 100));
        }
        for (int no : NO_HEIGHTS) {
            noArgument("raise(4, " + no + ")", moor, m -> m.raise(4, no));
        }
    }

    // ---- Promise 4

    private static void fix() {
        MoorTriangles moor = withOne();
        Due.is("fix(0, 2, false)", false, () -> moor.fix(0, 2, false));
        Due.is("fix(0, 2, true)", false, () -> moor.fix(0, 2, true));
        Due.is("fix(2, 0, true)", true, () -> moor.fix(2, 0, true));
        Due.is("fix(1, 0, true) of a border edge", false, () -> moor.fix(1, 0, true));
        Due.is("count(4)", 2, () -> moor.count(4));
        edgeIs("fixed", moor, 0, 2, 1, 0, 1, 1, 0);
        edgeIs("fixed", moor, 0, 1, 1, 1, 1, 0, 0);
        Due.is("fix(0, 2, false)", true, () -> moor.fix(0, 2, false));
        Due.is("fix(0, 2, false)", false, () -> moor.fix(0, 2, false));
        edgeIs("no longer fixed", moor, 0, 2, 1, 0, 0, 1, 1);
        Due.is("count(4)", 1, () -> moor.count(4));
        noState("fix(1, 3, true)", moor, m -> m.fix(1, 3, true));
        noState("fix(3, 4, false)", moor, m -> m.fix(3, 4, false));
        noState("fix(2, 2, true)", moor, m -> m.fix(2, 2, true));
        for (int no : new int[] {-1, 5, 16, 17, Integer.MIN_VALUE, Integer.MAX_VALUE}) {
            noIndex("fix(" + no + ", 0, true)", moor, m -> m.fix(no, 0, true));
            noIndex("fix(0, " + no + ", true)", moor, m -> m.fix(0, no, true));
            noIndex("fix(" + no + ", " + no + ", true)", moor, m -> m.fix(no, no, true));
        }
    }

    // ---- Promise 5

    private static void flip() {
        MoorTriangles moor = new MoorTriangles();
        Due.is("flip(0, 2)", 16 * 1 + 3, () -> moor.flip(0, 2));
        triangles("flipped", moor, new int[] {0, 1, 3, 900}, new int[] {1, 2, 3, 900});
        counts("flipped", moor, 4, 2, 5, 4, 0, 0, 1);
        edgeIs("flipped", moor, 0, 2, 0, 0, 0, 0, 0);
        edgeIs("flipped", moor, 1, 3, 1, 0, 0, 0, 1);
        Due.is("flip(3, 1)", 16 * 0 + 2, () -> moor.flip(3, 1));
        triangles("flipped back", moor, new int[] {0, 1, 2, 900}, new int[] {0, 2, 3, 900});
        MoorTriangles one = withOne();
        Due.is("flip(2, 0)", 16 * 3 + 4, () -> one.flip(2, 0));
        triangles("flipped to a greater one", one, new int[] {0, 1, 4, 300}, new int[] {0, 3, 4, 600},
                new int[] {1, 2, 4, 300}, new int[] {2, 3, 4, 600});
        Due.is("flip(4, 3) to an unfair one", 16 * 0 + 2, () -> one.flip(4, 3));
        Due.is("count(5)", 1, () -> one.count(5));
        Due.is("count(6)", 2, () -> one.count(6));
    }

    private static void flipThrows() {
        MoorTriangles moor = withOne();
        noState("flip of no edge", moor, m -> m.flip(1, 3));
        noState("flip(0, 0)", moor, m -> m.flip(0, 0));
        noState("flip of a border edge", moor, m -> m.flip(0, 1));
        noState("flip with a corner above 180 degrees", moor, m -> m.flip(0, 4));
        noState("flip with a corner above 180 degrees", moor, m -> m.flip(4, 1));
        MoorTriangles straight = new MoorTriangles();
        straight.build(15, 15, 0);
        noState("flip with a corner of 180 degrees", straight, m -> m.flip(0, 4));
        noState("flip with a corner of 180 degrees", straight, m -> m.flip(4, 3));
        moor.fix(0, 2, true);
        noState("flip of an edge that has to stay", moor, m -> m.flip(0, 2));
        moor.fix(2, 0, false);
        Due.is("flip of one that no longer has to", 52, () -> moor.flip(0, 2));
        for (int no : new int[] {-1, 5, 16, 17, Integer.MIN_VALUE, Integer.MAX_VALUE}) {
            noIndex("flip(" + no + ", 0)", moor, m -> m.flip(no, 0));
            noIndex("flip(0, " + no + ")", moor, m -> m.flip(0, no));
        }
    }

    // ---- Promise 6

    private static void settle() {
        MoorTriangles fresh = new MoorTriangles();
        Due.is("settle() of a new one", 0, fresh::settle);
        MoorTriangles moor = withOne();
        Due.is("settle()", 1, moor::settle);
        triangles("settled", moor, new int[] {0, 1, 4, 300}, new int[] {0, 3, 4, 600},
                new int[] {1, 2, 4, 300}, new int[] {2, 3, 4, 600});
        counts("settled", moor, 5, 4, 8, 4, 0, 0, 1);
        Due.is("settle() again", 0, moor::settle);
        MoorTriangles fixed = withOne();
        fixed.fix(0, 2, true);
        Due.is("settle() round an edge that has to stay", 0, fixed::settle);
        counts("settle() round an edge that has to stay", fixed, 5, 4, 8, 4, 1, 1, 0);
    }

    private static void settleInOrder() {
        MoorTriangles moor = new MoorTriangles();
        moor.build(29, 28, 0);
        moor.build(21, 18, 0);
        // Both 0 to 2 and 0 to 4 are unfair; with 0 to 4 flipped first it would take three flips.
        edgeIs("two unfair edges", moor, 0, 2, 1, 0, 0, 1, 1);
        edgeIs("two unfair edges", moor, 0, 4, 1, 0, 0, 1, 1);
        Due.is("count(5)", 2, () -> moor.count(5));
        Due.is("settles() in order", 2, moor::settles);
        Due.is("settle() in order", 2, moor::settle);
        edgeIs("settled in order", moor, 3, 4, 1, 0, 0, 0, 1);
        edgeIs("settled in order", moor, 3, 5, 1, 0, 0, 0, 1);
        Due.is("count(6)", 2, () -> moor.count(6));
    }

    // ---- Promise 7

    private static void told() {
        MoorTriangles moor = withOne();
        cairn("told", moor, 4, 20, 10, 40, 3, 3);
        cairn("told", moor, 0, 0, 0, 0, 4, 3);
        cairn("told", moor, 1, 30, 0, 0, 3, 2);
        cairn("told", moor, 2, 30, 30, 0, 4, 3);
        cairn("told", moor, 3, 0, 30, 0, 2, 1);
        for (int no : new int[] {-1, 5, 16, 17, Integer.MIN_VALUE, Integer.MAX_VALUE}) {
            noIndex("told(" + no + ", 0)", moor, m -> m.told(no, 0));
            noIndex("told(" + no + ", 4)", moor, m -> m.told(no, 4));
        }
        for (int no : new int[] {-1, 5, Integer.MIN_VALUE, Integer.MAX_VALUE}) {
            noIndex("told(0, " + no + ")", moor, m -> m.told(0, no));
        }
    }

    // ---- Promise 8

    private static void triangle() {
        MoorTriangles moor = new MoorTriangles();
        moor.build(15, 5, 0);
        moor.settle();
        moor.build(14, 20, 0);
        triangles("triangle", moor, new int[] {0, 1, 4, 150}, new int[] {0, 3, 4, 450},
                new int[] {1, 2, 4, 450}, new int[] {2, 3, 5, 300}, new int[] {2, 4, 5, 250},
                new int[] {3, 4, 5, 200});
        for (int no : new int[] {-1, 6, 28, Integer.MIN_VALUE, Integer.MAX_VALUE}) {
            noIndex("triangle(" + no + ", 0)", moor, m -> m.triangle(no, 0));
            noIndex("triangle(" + no + ", 3)", moor, m -> m.triangle(no, 3));
        }
        for (int no : new int[] {-1, 4, Integer.MIN_VALUE, Integer.MAX_VALUE}) {
            noIndex("triangle(0, " + no + ")", moor, m -> m.triangle(0, no));
        }
    }

    // ---- Promise 9

    private static void edge() {
        MoorTriangles moor = withOne();
        edgeIs("edge", moor, 0, 1, 1, 1, 0, 0, 0);
        edgeIs("edge", moor, 0, 2, 1, 0, 0, 1, 1);
        edgeIs("edge", moor, 0, 4, 1, 0, 0, 0, 0);
        edgeIs("edge", moor, 1, 3, 0, 0, 0, 0, 0);
        edgeIs("edge", moor, 3, 4, 0, 0, 0, 0, 0);
        edgeIs("edge", moor, 4, 4, 0, 0, 0, 0, 0);
        moor.fix(0, 2, true);
        edgeIs("unfair edge that has to stay", moor, 0, 2, 1, 0, 1, 1, 0);
        MoorTriangles fresh = new MoorTriangles();
        edgeIs("far corner on the circle", fresh, 0, 2, 1, 0, 0, 0, 1);
        for (int no : new int[] {-1, 5, 16, 17, Integer.MIN_VALUE, Integer.MAX_VALUE}) {
            noIndex("edge(" + no + ", 0, 0)", moor, m -> m.edge(no, 0, 0));
            noIndex("edge(0, " + no + ", 0)", moor, m -> m.edge(0, no, 0));
        }
        for (int no : new int[] {-1, 5, Integer.MIN_VALUE, Integer.MAX_VALUE}) {
            noIndex("edge(0, 1, " + no + ")", moor, m -> m.edge(0, 1, no));
            noIndex("edge(1, 3, " + no + ") of no edge", moor, m -> m.edge(1, 3, no));
        }
    }

    // ---- Promise 10

    private static void count() {
        MoorTriangles moor = withOne();
        counts("count", moor, 5, 4, 8, 4, 0, 1, 0);
        moor.fix(0, 2, true);
        moor.fix(2, 3, true);
        counts("count with edges that have to stay", moor, 5, 4, 8, 4, 2, 1, 0);
        moor.fix(0, 2, false);
        moor.settle();
        moor.flip(3, 4);
        counts("count with flips of both kinds", moor, 5, 4, 8, 4, 1, 1, 2);
        moor.settles();
        moor.would(1, 1);
        counts("count behind what would be", moor, 5, 4, 8, 4, 1, 1, 2);
        for (int no : new int[] {-1, 7, Integer.MIN_VALUE, Integer.MAX_VALUE}) {
            noIndex("count(" + no + ")", moor, m -> m.count(no));
        }
        MoorTriangles full = full();
        Due.is("edges of a full one", 3 * 16 - 3 - full.count(3), () -> full.count(2));
        Due.is("triangles of a full one", 2 * 16 - 2 - full.count(3), () -> full.count(1));
    }

    // ---- Promise 11

    private static void at() {
        MoorTriangles moor = withOne();
        int[][] places = {{0, 0, 0}, {20, 10, 0}, {15, 0, 0}, {10, 5, 0}, {25, 10, 3}, {30, 15, 3}, {30, 0, 0},
            {18, 12, 2}, {15, 15, 1}, {10, 20, 1}, {30, 30, 1}, {0, 30, 1}, {0, 15, 1}, {25, 20, 2}, {25, 5, 0}};
        for (int[] p : places) {
            Due.is("at(" + p[0] + ", " + p[1] + ")", p[2], () -> moor.at(p[0], p[1]));
        }
        for (int no : NO_COORDINATES) {
            noArgument("at(" + no + ", 5)", moor, m -> m.at(no, 5));
            noArgument("at(5, " + no + ")", moor, m -> m.at(5, no));
        }
    }

    // ---- Promise 12

    private static void height() {
        MoorTriangles moor = withOne();
        Due.is("height at a cairn", 40, () -> moor.height(20, 10));
        Due.is("height on an edge", 20, () -> moor.height(10, 5));
        Due.is("height within", 20, () -> moor.height(25, 10));
        Due.is("height at a corner", 0, () -> moor.height(30, 30));
        moor.raise(0, 99);
        moor.raise(1, 59);
        moor.raise(4, 47);
        // (99 * 210 + 59 * 60 + 47 * 30) / 300 is 85.8; cut one by one they would make 84.
        Due.is("height divided once", 85, () -> moor.height(8, 1));
        Due.is("height at (30, 0)", 59, () -> moor.height(30, 0));
        // On the edge 0 to 2 of a triangle with an area of 900: 99 * 450 / 900.
        Due.is("height cut towards 0", 49, () -> moor.height(15, 15));
        for (int no : NO_COORDINATES) {
            noArgument("height(" + no + ", 5)", moor, m -> m.height(no, 5));
            noArgument("height(5, " + no + ")", moor, m -> m.height(5, no));
        }
    }

    // ---- Promise 13

    private static void nearest() {
        MoorTriangles moor = withOne();
        int[][] places = {{20, 10, 4}, {0, 0, 0}, {30, 30, 2}, {15, 15, 4}, {10, 5, 0}, {11, 5, 4}, {25, 5, 1},
            {25, 20, 2}, {24, 20, 4}, {3, 20, 3}};
        for (int[] p : places) {
            Due.is("nearest(" + p[0] + ", " + p[1] + ")", p[2], () -> moor.nearest(p[0], p[1]));
        }
        for (int no : NO_COORDINATES) {
            noArgument("nearest(" + no + ", 5)", moor, m -> m.nearest(no, 5));
            noArgument("nearest(5, " + no + ")", moor, m -> m.nearest(5, no));
        }
    }

    // ---- Promise 14

    private static void circles() {
        MoorTriangles moor = withOne();
        // Centres (15, -5), (15, 15), (-5, 35), (35, 15); squares of the radius 250, 450, 1250, 250.
        int[][] places = {{15, 15, 2}, {0, 0, 0}, {20, 10, 1}, {25, 5, 3}, {15, 10, 3}, {15, 25, 2}, {22, 18, 3},
            {29, 1, 3}, {1, 29, 2}, {30, 30, 0}, {0, 30, 1}};
        for (int[] p : places) {
            Due.is("circles(" + p[0] + ", " + p[1] + ")", p[2], () -> moor.circles(p[0], p[1]));
        }
        for (int no : NO_COORDINATES) {
            noArgument("circles(" + no + ", 5)", moor, m -> m.circles(no, 5));
            noArgument("circles(5, " + no + ")", moor, m -> m.circles(5, no));
        }
    }

    // ---- Promise 15

    private static void way() {
        MoorTriangles moor = withOne();
        int[][] ways = {{4, 4, 0}, {0, 0, 0}, {0, 1, 1}, {4, 0, 1}, {3, 4, 2}, {4, 3, 2}, {1, 3, 2}, {0, 2, 1}};
        for (int[] w : ways) {
            Due.is("way(" + w[0] + ", " + w[1] + ")", w[2], () -> moor.way(w[0], w[1]));
        }
        moor.build(26, 10, 0);
        Due.is("way(5, 3)", 2, () -> moor.way(5, 3));
        moor.build(27, 10, 0);
        Due.is("way(6, 0)", 2, () -> moor.way(6, 0));
        moor.flip(0, 2);
        Due.is("way(6, 3)", 2, () -> moor.way(6, 3));
        Due.is("way(0, 2)", 2, () -> moor.way(0, 2));
        MoorTriangles far = new MoorTriangles();
        for (int i = 1; i <= 12; i++) {
            far.build(0, 2 * i, 0);
        }
        far.settle();
        Due.is("way along a row", Due.outcome(() -> steps(far, 4, 15)), () -> far.way(4, 15));
        for (int no : new int[] {-1, 7, 16, 17, 31, 32, Integer.MIN_VALUE, Integer.MAX_VALUE}) {
            noIndex("way(" + no + ", 0)", moor, m -> m.way(no, 0));
            noIndex("way(0, " + no + ")", moor, m -> m.way(0, no));
            noIndex("way(" + no + ", " + no + ")", moor, m -> m.way(no, no));
        }
    }

    /** The fewest edges between two cairns, by what edge() tells; each edge is asked for once. */
    private static int steps(MoorTriangles moor, int a, int b) {
        int cairns = moor.count(0);
        int[][] taken = new int[cairns][cairns];
        for (int i = 0; i < cairns; i++) {
            for (int j = 0; j < i; j++) {
                taken[i][j] = moor.edge(i, j, 0) == 1 ? 1 : 99;
                taken[j][i] = taken[i][j];
            }
        }
        for (int by = 0; by < cairns; by++) {
            for (int i = 0; i < cairns; i++) {
                for (int j = 0; j < cairns; j++) {
                    taken[i][j] = Math.min(taken[i][j], taken[i][by] + taken[by][j]);
                }
            }
        }
        return taken[a][b];
    }

    // ---- Promise 16

    private static void settles() {
        MoorTriangles fresh = new MoorTriangles();
        Due.is("settles() of a new one", 0, fresh::settles);
        MoorTriangles moor = withOne();
        long before = moor.digest();
        Due.is("settles()", 1, moor::settles);
        Due.is("settles() again", 1, moor::settles);
        Due.is("digest behind settles()", before, moor::digest);
        moor.fix(0, 2, true);
        Due.is("settles() round an edge that has to stay", 0, moor::settles);
        MoorTriangles full = full();
        int told = full.settles();
        Due.is("settle() behind settles()", told, full::settle);
        Due.is("settles() behind settle()", 0, full::settles);
    }

    // ---- Promise 17

    private static void would() {
        MoorTriangles moor = new MoorTriangles();
        long before = moor.digest();
        Due.is("would(20, 10)", 1, () -> moor.would(20, 10));
        Due.is("would(15, 15)", 0, () -> moor.would(15, 15));
        Due.is("would(10, 10)", 0, () -> moor.would(10, 10));
        Due.is("would(15, 0)", 1, () -> moor.would(15, 0));
        Due.is("digest behind would()", before, moor::digest);
        moor.fix(0, 2, true);
        Due.is("would(20, 10) beside an edge that has to stay", 1, () -> moor.would(20, 10));
        MoorTriangles full = full();
        long beforeFull = full.digest();
        MoorTriangles fewer = new MoorTriangles();
        Due.is("would(0, 1) with 16", true, () -> full.would(0, 1) >= 0);
        noState("would(2, 3) with 16 upon a cairn", full, m -> m.would(2, 3));
        Due.is("digest behind would() with 16", beforeFull, full::digest);
        for (int x = 1; x < 30; x++) {
            int place = x;
            int unfair = fewer.would(place, 4);
            MoorTriangles built = new MoorTriangles();
            built.build(place, 4, 0);
            Due.is("count(5) behind building at (" + x + ", 4)", unfair, () -> built.count(5));
        }
        for (int no : NO_COORDINATES) {
            noArgument("would(" + no + ", 5)", moor, m -> m.would(no, 5));
            noArgument("would(5, " + no + ")", moor, m -> m.would(5, no));
        }
        noState("would(0, 0)", moor, m -> m.would(0, 0));
        noState("would(30, 30)", moor, m -> m.would(30, 30));
    }

    // ---- Promise 18

    private static void mean() {
        MoorTriangles moor = new MoorTriangles();
        Due.is("mean() of a new one", 2.5, moor::mean);
        moor.build(20, 10, 0);
        Due.is("mean() of five", 3.2, moor::mean);
        moor.build(15, 0, 0);
        Due.is("mean() of six", 20.0 / 6, moor::mean);
    }

    // ---- Promise 19

    private static void digest() {
        digestOf("new", new MoorTriangles(), 4, 2, 5, 4, 0, 0, 0,
                0, 0, 0, 3, 2, 30, 0, 0, 2, 1, 30, 30, 0, 3, 2, 0, 30, 0, 2, 1,
                0, 1, 2, 900, 0, 2, 3, 900,
                0, 1, 0, 0, 0, 0, 2, 0, 0, 1, 0, 3, 0, 0, 0, 1, 2, 0, 0, 0, 2, 3, 0, 0, 0);
        MoorTriangles moor = withOne();
        moor.flip(0, 2);
        moor.flip(3, 4);
        moor.fix(0, 1, true);
        digestOf("one", moor, 5, 4, 8, 4, 1, 1, 2,
                0, 0, 0, 4, 3, 30, 0, 0, 3, 2, 30, 30, 0, 4, 3, 0, 30, 0, 2, 1, 20, 10, 40, 3, 3,
                0, 1, 4, 300, 0, 2, 3, 900, 0, 2, 4, 300, 1, 2, 4, 300,
                0, 1, 1, 0, 0, 0, 2, 0, 1, 1, 0, 3, 0, 0, 0, 0, 4, 0, 0, 0,
                1, 2, 0, 0, 0, 1, 4, 0, 0, 0, 2, 3, 0, 0, 0, 2, 4, 0, 0, 0);
    }

    private static void digestOf(String name, MoorTriangles moor, int... numbers) {
        long d = 1433;
        for (int x : numbers) {
            d = d * 31 + x;
        }
        long want = d;
        Due.is("digest() of " + name, want, moor::digest);
    }
}
