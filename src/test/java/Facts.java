/** What the tests ask again and again: moors, their facts, and calls that have to be refused. */
abstract class Facts {
    static final int[] NO_COORDINATES = {-1, 31, Integer.MIN_VALUE, Integer.MAX_VALUE};
    static final int[] NO_HEIGHTS = {-1, 100, Integer.MIN_VALUE, Integer.MAX_VALUE};

    /** Cairn 4 stands at (20, 10), 40 high, within the first triangle; edge 0 to 2 is unfair. */
    static MoorTriangles withOne() {
        MoorTriangles moor = new MoorTriangles();
        moor.build(20, 10, 40);
        return moor;
    }

    static MoorTriangles full() {
        MoorTriangles moor = new MoorTriangles();
        for (int i = 0; i < 12; i++) {
            moor.build(2 + i * 11 % 27, 3 + i * 7 % 25, i);
        }
        return moor;
    }

    /** Cairns 4 to 15 on the border at (1, 0) to (12, 0), all with an edge to 2; only 0 to 2 is unfair. */
    static MoorTriangles fan() {
        MoorTriangles moor = new MoorTriangles();
        for (int x = 1; x <= 12; x++) {
            moor.build(x, 0, 0);
        }
        return moor;
    }

    /** The triangles of fan(): as few as 16 cairns can have. */
    static int[][] fanTriangles() {
        return new int[][] {{0, 2, 3, 900}, {0, 2, 4, 30}, {1, 2, 15, 540}, {2, 4, 5, 30}, {2, 5, 6, 30},
            {2, 6, 7, 30}, {2, 7, 8, 30}, {2, 8, 9, 30}, {2, 9, 10, 30}, {2, 10, 11, 30}, {2, 11, 12, 30},
            {2, 12, 13, 30}, {2, 13, 14, 30}, {2, 14, 15, 30}};
    }

    /** Sixteen cairns, none of the twelve built ones at the border: as many triangles as there can be. */
    static MoorTriangles inside() {
        int[][] places = {{1, 3}, {3, 8}, {5, 2}, {7, 17}, {9, 28}, {11, 4}, {13, 22}, {17, 9}, {19, 26}, {23, 12},
            {25, 29}, {29, 14}};
        return with(places);
    }

    /** Cairn 4 on edge 0 to 2, amid all four corners. */
    static MoorTriangles middle() {
        return with(new int[] {15, 15});
    }

    static MoorTriangles with(int[]... places) {
        MoorTriangles moor = new MoorTriangles();
        for (int[] place : places) {
            moor.build(place[0], place[1], 0);
        }
        return moor;
    }

    interface Change {
        Object on(MoorTriangles moor);
    }

    /** The call throws this, and the digest is the same behind it. */
    static void refused(String what, String exception, MoorTriangles moor, Change change) {
        long before = moor.digest();
        Due.is(what, "throws " + exception, () -> change.on(moor));
        Due.is("digest behind " + what, before, moor::digest);
    }

    static void noIndex(String what, MoorTriangles moor, Change change) {
        refused(what, "IndexOutOfBoundsException", moor, change);
    }

    static void noArgument(String what, MoorTriangles moor, Change change) {
        refused(what, "IllegalArgumentException", moor, change);
    }

    static void noState(String what, MoorTriangles moor, Change change) {
        refused(what, "IllegalStateException", moor, change);
    }

    static void triangles(String name, MoorTriangles moor, int[]... want) {
        Due.is(name + ": count(1)", want.length, () -> moor.count(1));
        for (int t = 0; t < want.length; t++) {
            int number = t;
            for (int what = 0; what < want[t].length; what++) {
                int which = what;
                Due.is(name + ": triangle(" + t + ", " + what + ")", want[t][what], () -> moor.triangle(number, which));
            }
        }
    }

    static void counts(String name, MoorTriangles moor, int... want) {
        for (int what = 0; what < want.length; what++) {
            int which = what;
            Due.is(name + ": count(" + what + ")", want[what], () -> moor.count(which));
        }
    }

    static void cairn(String name, MoorTriangles moor, int cairn, int... want) {
        for (int what = 0; what < want.length; what++) {
            int which = what;
            Due.is(name + ": told(" + cairn + ", " + what + ")", want[what], () -> moor.told(cairn, which));
        }
    }

    static void edgeIs(String name, MoorTriangles moor, int a, int b, int... want) {
        for (int what = 0; what < want.length; what++) {
            int which = what;
            Due.is(name + ": edge(" + a + ", " + b + ", " + what + ")", want[what], () -> moor.edge(a, b, which));
            Due.is(name + ": edge(" + b + ", " + a + ", " + what + ")", want[what], () -> moor.edge(b, a, which));
        }
    }
}
