/**
 * A surveyed moor of triangles: cairns stand on a square, triangles cover it
 * between them, and an edge between two triangles can be flipped.
 */
public final class MoorTriangles {
    private static final int MOST_CAIRNS = 16;
    private static final int SIDE = 30;
    private static final int TOP = 99;
    private static final int CAIRN_FACTS = 5;
    private static final int TRIANGLE_FACTS = 4;
    private static final int COUNTS = 7;

    private final Mesh mesh;
    // What would be is tried on a copy, made once, so that no call makes a new one.
    private final Mesh trial;
    private final int[] heights;
    private int flips;

    public MoorTriangles() {
        mesh = new Mesh();
        trial = new Mesh();
        heights = new int[MOST_CAIRNS];
        flips = 0;
    }

    // ---- cairns and edges

    public int build(int x, int y, int height) throws IllegalArgumentException, IllegalStateException {
        needPlace(x, y);
        needHeight(height);
        if (mesh.cairns >= MOST_CAIRNS) {
            throw new IllegalStateException("there are 16 cairns");
        }
        needFreePlace(x, y);
        int cairn = mesh.insert(x, y);
        setHeight(cairn, height);
        return cairn;
    }

    public int raise(int cairn, int height) throws IndexOutOfBoundsException, IllegalArgumentException {
        needCairn(cairn);
        needHeight(height);
        int before = heightOf(cairn);
        setHeight(cairn, height);
        return before;
    }

    public boolean fix(int a, int b, boolean stays) throws IndexOutOfBoundsException, IllegalStateException {
        needCairn(a);
        needCairn(b);
        needEdge(a, b);
        boolean before = mesh.mustStay(a, b);
        mesh.setStay(a, b, stays);
        return before;
    }

    public int flip(int a, int b) throws IndexOutOfBoundsException, IllegalStateException {
        needCairn(a);
        needCairn(b);
        needEdge(a, b);
        if (!mesh.isTurnable(a, b)) {
            throw new IllegalStateException("the edge cannot be flipped");
        }
        int c = mesh.leftOf(a, b);
        int d = mesh.leftOf(b, a);
        mesh.turnEdge(a, b);
        flips++;
        return 16 * Math.min(c, d) + Math.max(c, d);
    }

    public int settle() {
        int turned = mesh.turnUnfairEdges();
        flips += turned;
        return turned;
    }

    // ---- what is there

    public int told(int cairn, int what) throws IndexOutOfBoundsException {
        needCairn(cairn);
        needWhat(what, CAIRN_FACTS);
        return cairnFact(cairn, what);
    }

    public int triangle(int triangle, int what) throws IndexOutOfBoundsException {
        if (triangle < 0 || triangle >= mesh.triangles) {
            throw new IndexOutOfBoundsException("there is no such triangle");
        }
        needWhat(what, TRIANGLE_FACTS);
        return triangleFact(triangle, what);
    }

    public int edge(int a, int b, int what) throws IndexOutOfBoundsException {
        needCairn(a);
        needCairn(b);
        needWhat(what, Mesh.EDGE_FACTS);
        return edgeFact(a, b, what);
    }

    public int count(int what) throws IndexOutOfBoundsException {
        needWhat(what, COUNTS);
        return countOf(what);
    }

    // ---- places

    public int at(int x, int y) throws IllegalArgumentException {
        needPlace(x, y);
        return mesh.find(x, y);
    }

    public int height(int x, int y) throws IllegalArgumentException {
        needPlace(x, y);
        int triangle = mesh.find(x, y);
        int a = mesh.corner(triangle, 0);
        int b = mesh.corner(triangle, 1);
        int c = mesh.corner(triangle, 2);
        int whole = mesh.areaOf(triangle);
        int sum = heightOf(a) * Math.abs(mesh.turn(b, c, x, y))
                + heightOf(b) * Math.abs(mesh.turn(c, a, x, y))
                + heightOf(c) * Math.abs(mesh.turn(a, b, x, y));
        return whole > 0 ? sum / whole : 0;
    }

    public int nearest(int x, int y) throws IllegalArgumentException {
        needPlace(x, y);
        return mesh.nearestTo(x, y);
    }

    public int circles(int x, int y) throws IllegalArgumentException {
        needPlace(x, y);
        return mesh.circlesRound(x, y);
    }

    public int way(int a, int b) throws IndexOutOfBoundsException {
        needCairn(a);
        needCairn(b);
        return mesh.steps(a, b);
    }

    // ---- what would be

    public int settles() {
        trial.become(mesh);
        return trial.turnUnfairEdges();
    }

    public int would(int x, int y) throws IllegalArgumentException, IllegalStateException {
        needPlace(x, y);
        needFreePlace(x, y);
        trial.become(mesh);
        trial.insert(x, y);
        return trial.edgesThat(Mesh.UNFAIR);
    }

    public double mean() {
        // Every edge is one edge of each of its two ends.
        int ends = 2 * mesh.edgesThat(Mesh.THERE);
        return mesh.cairns > 0 ? (double) ends / (double) mesh.cairns : 0.0;
    }

    public long digest() {
        long d = 1433;
        for (int what = 0; what < COUNTS; what++) {
            d = d * 31 + countOf(what);
        }
        for (int cairn = 0; cairn < mesh.cairns; cairn++) {
            for (int what = 0; what < CAIRN_FACTS; what++) {
                d = d * 31 + cairnFact(cairn, what);
            }
        }
        for (int triangle = 0; triangle < mesh.triangles; triangle++) {
            for (int what = 0; what < TRIANGLE_FACTS; what++) {
                d = d * 31 + triangleFact(triangle, what);
            }
        }
        for (int a = 0; a < mesh.cairns; a++) {
            for (int b = a + 1; b < mesh.cairns; b++) {
                if (mesh.isEdge(a, b)) {
                    d = d * 31 + a;
                    d = d * 31 + b;
                    d = d * 31 + edgeFact(a, b, Mesh.STAYS);
                    d = d * 31 + edgeFact(a, b, Mesh.UNFAIR);
                    d = d * 31 + edgeFact(a, b, Mesh.TURNABLE);
                }
            }
        }
        return d;
    }

    // ---- answers behind the checks

    private int cairnFact(int cairn, int what) {
        switch (what) {
            case 0:
                return mesh.xOf(cairn);
            case 1:
                return mesh.yOf(cairn);
            case 2:
                return heightOf(cairn);
            case 3:
                return mesh.edgesAt(cairn);
            default:
                return mesh.trianglesAt(cairn);
        }
    }

    private int triangleFact(int triangle, int what) {
        return what == 3 ? mesh.areaOf(triangle) : mesh.corner(triangle, what);
    }

    private int edgeFact(int a, int b, int what) {
        return mesh.isEdgeThat(what, a, b) ? 1 : 0;
    }

    private int countOf(int what) {
        switch (what) {
            case 0:
                return mesh.cairns;
            case 1:
                return mesh.triangles;
            case 2:
                return mesh.edgesThat(Mesh.THERE);
            case 3:
                return mesh.edgesThat(Mesh.BORDER);
            case 4:
                return mesh.edgesThat(Mesh.STAYS);
            case 5:
                return mesh.edgesThat(Mesh.UNFAIR);
            default:
                return flips;
        }
    }

    private int heightOf(int cairn) {
        return cairn >= 0 && cairn < heights.length ? heights[cairn] : 0;
    }

    private void setHeight(int cairn, int height) {
        if (cairn >= 0 && cairn < heights.length) {
            heights[cairn] = height;
        }
    }

    // ---- checks

    private void needPlace(int x, int y) {
        if (x < 0 || x > SIDE || y < 0 || y > SIDE) {
            throw new IllegalArgumentException("x and y are 0 to 30");
        }
    }

    private void needHeight(int height) {
        if (height < 0 || height > TOP) {
            throw new IllegalArgumentException("a height is 0 to 99");
        }
    }

    private void needFreePlace(int x, int y) {
        if (mesh.hasCairnAt(x, y)) {
            throw new IllegalStateException("a cairn is there");
        }
    }

    private void needCairn(int cairn) {
        if (!mesh.isCairn(cairn)) {
            throw new IndexOutOfBoundsException("there is no such cairn");
        }
    }

    private void needEdge(int a, int b) {
        if (!mesh.isEdge(a, b)) {
            throw new IllegalStateException("there is no edge between them");
        }
    }

    private void needWhat(int what, int kinds) {
        if (what < 0 || what >= kinds) {
            throw new IndexOutOfBoundsException("nothing is told under this number");
        }
    }

    /**
     * The cairns' places and the triangles between them. A triangle is held as
     * three ways: on the left of the way from one corner to the next lies the
     * third one. So both triangles of an edge are found without a search.
     */
    private static final class Mesh {
        static final int THERE = 0;
        static final int BORDER = 1;
        static final int STAYS = 2;
        static final int UNFAIR = 3;
        static final int TURNABLE = 4;
        static final int EDGE_FACTS = 5;

        // One more than a moor may have: would() also asks for a seventeenth.
        private static final int ROOM = 17;
        // Not more than 2 * 17 - 2 - 4 triangles, as at least four cairns are on the border.
        private static final int MOST_TRIANGLES = 28;
        // An edge that settling has flipped away never comes back, so 136 flips are never passed.
        private static final int MOST_TURNS = 1000;
        private static final int NONE = -1;

        int cairns;
        int triangles;
        private final int[] xs;
        private final int[] ys;
        // At a * ROOM + b: the third corner of the triangle on the left of a to b, or NONE.
        private final int[] lefts;
        // At a * ROOM + b, and at b * ROOM + a: 1 if this edge has to stay.
        private final int[] stays;
        // Three for each triangle, in the order of their numbers.
        private final int[] corners;

        Mesh() {
            xs = new int[ROOM];
            ys = new int[ROOM];
            lefts = new int[ROOM * ROOM];
            stays = new int[ROOM * ROOM];
            corners = new int[3 * MOST_TRIANGLES];
            for (int i = 0; i < lefts.length; i++) {
                lefts[i] = NONE;
            }
            addCairn(0, 0);
            addCairn(SIDE, 0);
            addCairn(SIDE, SIDE);
            addCairn(0, SIDE);
            addTriangle(0, 1, 2);
            addTriangle(0, 2, 3);
            listTriangles();
        }

        void become(Mesh other) {
            cairns = other.cairns;
            triangles = other.triangles;
            copyRow(other.xs, xs);
            copyRow(other.ys, ys);
            copyRow(other.lefts, lefts);
            copyRow(other.stays, stays);
            copyRow(other.corners, corners);
        }

        private static void copyRow(int[] from, int[] to) {
            for (int i = 0; i < to.length && i < from.length; i++) {
                to[i] = from[i];
            }
        }

        // ---- cairns

        boolean isCairn(int cairn) {
            return cairn >= 0 && cairn < ROOM && cairn < cairns;
        }

        int xOf(int cairn) {
            return cairn >= 0 && cairn < ROOM ? xs[cairn] : 0;
        }

        int yOf(int cairn) {
            return cairn >= 0 && cairn < ROOM ? ys[cairn] : 0;
        }

        boolean hasCairnAt(int x, int y) {
            for (int cairn = 0; cairn < cairns; cairn++) {
                if (xOf(cairn) == x && yOf(cairn) == y) {
                    return true;
                }
            }
            return false;
        }

        int nearestTo(int x, int y) {
            int best = 0;
            for (int cairn = 1; cairn < cairns; cairn++) {
                if (squareTo(cairn, x, y) < squareTo(best, x, y)) {
                    best = cairn;
                }
            }
            return best;
        }

        private int squareTo(int cairn, int x, int y) {
            int dx = xOf(cairn) - x;
            int dy = yOf(cairn) - y;
            return dx * dx + dy * dy;
        }

        int edgesAt(int cairn) {
            int found = 0;
            for (int other = 0; other < cairns; other++) {
                if (isEdge(cairn, other)) {
                    found++;
                }
            }
            return found;
        }

        int trianglesAt(int cairn) {
            // Each triangle of a cairn lies on the left of just one way that starts there.
            int found = 0;
            for (int other = 0; other < cairns; other++) {
                if (leftOf(cairn, other) != NONE) {
                    found++;
                }
            }
            return found;
        }

        int steps(int from, int to) {
            int reached = isCairn(from) ? 1 << from : 0;
            for (int taken = 0; taken < cairns; taken++) {
                if (isCairn(to) && (reached >> to & 1) == 1) {
                    return taken;
                }
                reached = withNeighbours(reached);
            }
            return 0;
        }

        private int withNeighbours(int reached) {
            int wider = reached;
            for (int a = 0; a < cairns; a++) {
                for (int b = 0; b < cairns; b++) {
                    if ((reached >> a & 1) == 1 && isEdge(a, b)) {
                        wider |= 1 << b;
                    }
                }
            }
            return wider;
        }

        // ---- triangles

        int leftOf(int a, int b) {
            return a >= 0 && a < ROOM && b >= 0 && b < ROOM ? lefts[a * ROOM + b] : NONE;
        }

        int corner(int triangle, int which) {
            if (triangle < 0 || triangle >= MOST_TRIANGLES || which < 0 || which > 2) {
                return NONE;
            }
            return corners[3 * triangle + which];
        }

        int areaOf(int triangle) {
            int c = corner(triangle, 2);
            return Math.abs(turn(corner(triangle, 0), corner(triangle, 1), xOf(c), yOf(c)));
        }

        int find(int x, int y) {
            for (int triangle = 0; triangle < triangles; triangle++) {
                if (covers(triangle, x, y)) {
                    return triangle;
                }
            }
            return NONE;
        }

        private boolean covers(int triangle, int x, int y) {
            int a = corner(triangle, 0);
            int b = corner(triangle, 1);
            int c = corner(triangle, 2);
            int ab = turn(a, b, x, y);
            int bc = turn(b, c, x, y);
            int ca = turn(c, a, x, y);
            return ab >= 0 && bc >= 0 && ca >= 0 || ab <= 0 && bc <= 0 && ca <= 0;
        }

        int circlesRound(int x, int y) {
            int found = 0;
            for (int triangle = 0; triangle < triangles; triangle++) {
                if (circleHolds(corner(triangle, 0), corner(triangle, 1), corner(triangle, 2), x, y)) {
                    found++;
                }
            }
            return found;
        }

        /** Greater than 0 if a, b and the place turn left; without its sign twice their area. */
        int turn(int a, int b, int x, int y) {
            return (xOf(b) - xOf(a)) * (y - yOf(a)) - (yOf(b) - yOf(a)) * (x - xOf(a));
        }

        private boolean circleHolds(int a, int b, int c, int x, int y) {
            int ax = xOf(a) - x;
            int ay = yOf(a) - y;
            int bx = xOf(b) - x;
            int by = yOf(b) - y;
            int cx = xOf(c) - x;
            int cy = yOf(c) - y;
            int ofBc = bx * cy - by * cx;
            int ofCa = cx * ay - cy * ax;
            int ofAb = ax * by - ay * bx;
            int sum = (ax * ax + ay * ay) * ofBc + (bx * bx + by * by) * ofCa + (cx * cx + cy * cy) * ofAb;
            // The sum is greater than 0 within the circle if a, b and c turn left, otherwise smaller than 0.
            return ofAb + ofBc + ofCa > 0 ? sum > 0 : sum < 0;
        }

        // ---- edges

        boolean isEdge(int a, int b) {
            return leftOf(a, b) != NONE || leftOf(b, a) != NONE;
        }

        boolean isEdgeThat(int fact, int a, int b) {
            if (!isEdge(a, b)) {
                return false;
            }
            switch (fact) {
                case BORDER:
                    return !isInner(a, b);
                case STAYS:
                    return mustStay(a, b);
                case UNFAIR:
                    return isUnfair(a, b);
                case TURNABLE:
                    return isTurnable(a, b);
                default:
                    return fact == THERE;
            }
        }

        int edgesThat(int fact) {
            int found = 0;
            for (int a = 0; a < cairns; a++) {
                for (int b = a + 1; b < cairns; b++) {
                    if (isEdgeThat(fact, a, b)) {
                        found++;
                    }
                }
            }
            return found;
        }

        private boolean isInner(int a, int b) {
            return leftOf(a, b) != NONE && leftOf(b, a) != NONE;
        }

        boolean mustStay(int a, int b) {
            return isCairn(a) && isCairn(b) && stays[a * ROOM + b] == 1;
        }

        private boolean isUnfair(int a, int b) {
            int far = leftOf(b, a);
            return isInner(a, b) && circleHolds(a, b, leftOf(a, b), xOf(far), yOf(far));
        }

        boolean isTurnable(int a, int b) {
            if (!isInner(a, b) || mustStay(a, b)) {
                return false;
            }
            int c = leftOf(a, b);
            int d = leftOf(b, a);
            // As c is on the left of a to b, and d on its right, no other two sides can be different ones.
            return turn(c, d, xOf(a), yOf(a)) < 0 && turn(c, d, xOf(b), yOf(b)) > 0;
        }

        // ---- changes

        void setStay(int a, int b, boolean stay) {
            if (isCairn(a) && isCairn(b)) {
                stays[a * ROOM + b] = stay ? 1 : 0;
                stays[b * ROOM + a] = stay ? 1 : 0;
            }
        }

        void turnEdge(int a, int b) {
            int c = leftOf(a, b);
            int d = leftOf(b, a);
            removeTriangle(a, b, c);
            removeTriangle(a, b, d);
            addTriangle(c, d, a);
            addTriangle(c, d, b);
            listTriangles();
        }

        int turnUnfairEdges() {
            int turned = 0;
            while (turned < MOST_TURNS && turnFirstUnfairEdge()) {
                turned++;
            }
            return turned;
        }

        private boolean turnFirstUnfairEdge() {
            for (int a = 0; a < cairns; a++) {
                for (int b = a + 1; b < cairns; b++) {
                    if (isUnfair(a, b) && !mustStay(a, b)) {
                        turnEdge(a, b);
                        return true;
                    }
                }
            }
            return false;
        }

        int insert(int x, int y) {
            int triangle = find(x, y);
            if (triangle == NONE || cairns >= ROOM) {
                return NONE;
            }
            int a = corner(triangle, 0);
            int b = corner(triangle, 1);
            int c = corner(triangle, 2);
            int cairn = addCairn(x, y);
            if (turn(a, b, x, y) == 0) {
                cutEdge(a, b, cairn);
            } else if (turn(b, c, x, y) == 0) {
                cutEdge(b, c, cairn);
            } else if (turn(c, a, x, y) == 0) {
                cutEdge(c, a, cairn);
            } else {
                removeTriangle(a, b, c);
                addTriangle(a, b, cairn);
                addTriangle(b, c, cairn);
                addTriangle(c, a, cairn);
            }
            listTriangles();
            return cairn;
        }

        private int addCairn(int x, int y) {
            int cairn = cairns;
            if (cairn < 0 || cairn >= ROOM) {
                return NONE;
            }
            xs[cairn] = x;
            ys[cairn] = y;
            cairns++;
            return cairn;
        }

        private void cutEdge(int a, int b, int cairn) {
            int c = leftOf(a, b);
            int d = leftOf(b, a);
            cutTriangle(a, b, c, cairn);
            cutTriangle(a, b, d, cairn);
            if (mustStay(a, b)) {
                setStay(a, b, false);
                setStay(a, cairn, true);
                setStay(b, cairn, true);
            }
        }

        private void cutTriangle(int a, int b, int far, int cairn) {
            if (far != NONE) {
                removeTriangle(a, b, far);
                addTriangle(cairn, far, a);
                addTriangle(cairn, far, b);
            }
        }

        private void addTriangle(int a, int b, int c) {
            if (turn(a, b, xOf(c), yOf(c)) > 0) {
                setLefts(a, b, c, c, a, b);
            } else {
                setLefts(a, c, b, b, a, c);
            }
        }

        private void removeTriangle(int a, int b, int c) {
            if (turn(a, b, xOf(c), yOf(c)) > 0) {
                setLefts(a, b, c, NONE, NONE, NONE);
            } else {
                setLefts(a, c, b, NONE, NONE, NONE);
            }
        }

        /** Puts on the left of a to b, of b to c and of c to a what is given for each. */
        private void setLefts(int a, int b, int c, int ofAb, int ofBc, int ofCa) {
            if (isCairn(a) && isCairn(b) && isCairn(c)) {
                lefts[a * ROOM + b] = ofAb;
                lefts[b * ROOM + c] = ofBc;
                lefts[c * ROOM + a] = ofCa;
            }
        }

        /** Two cairns can have two triangles with greater third corners: the smaller one comes first. */
        private void listTriangles() {
            triangles = 0;
            for (int a = 0; a < cairns; a++) {
                for (int b = a + 1; b < cairns; b++) {
                    int one = leftOf(a, b);
                    int other = leftOf(b, a);
                    listTriangle(a, b, Math.min(one, other));
                    listTriangle(a, b, Math.max(one, other));
                }
            }
        }

        private void listTriangle(int a, int b, int c) {
            // With a smaller c it is listed under other two corners.
            if (c <= b || triangles < 0 || triangles >= MOST_TRIANGLES) {
                return;
            }
            corners[3 * triangles] = a;
            corners[3 * triangles + 1] = b;
            corners[3 * triangles + 2] = c;
            triangles++;
        }
    }
}
