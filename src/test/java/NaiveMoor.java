import java.util.ArrayList;
import java.util.HashMap;
import java.util.List;
import java.util.Map;
import java.util.TreeSet;

/**
 * The document once more, held quite differently from the class: a sorted set of triangles
 * as told, everything else searched in it, and circles by their centre.
 */
final class NaiveMoor {
    final List<int[]> cairns = new ArrayList<>();
    final TreeSet<Integer> triangles = new TreeSet<>();
    final TreeSet<Integer> stays = new TreeSet<>();
    int flips = 0;

    NaiveMoor() {
        cairns.add(new int[] {0, 0, 0});
        cairns.add(new int[] {30, 0, 0});
        cairns.add(new int[] {30, 30, 0});
        cairns.add(new int[] {0, 30, 0});
        triangles.add(code(0, 1, 2));
        triangles.add(code(0, 2, 3));
    }

    private NaiveMoor(NaiveMoor other) {
        for (int[] cairn : other.cairns) {
            cairns.add(cairn.clone());
        }
        triangles.addAll(other.triangles);
        stays.addAll(other.stays);
    }

    static int code(int... cairns) {
        int[] sorted = cairns.clone();
        java.util.Arrays.sort(sorted);
        int code = 0;
        for (int cairn : sorted) {
            code = code * 32 + cairn;
        }
        return code;
    }

    static int[] corners(int code) {
        return new int[] {code / 1024, code / 32 % 32, code % 32};
    }

    int build(int x, int y, int height) {
        place(x, y);
        argument(height >= 0 && height <= 99);
        state(cairns.size() < 16);
        state(cairnAt(x, y) < 0);
        return put(x, y, height);
    }

    int raise(int cairn, int height) {
        index(cairn, cairns.size());
        argument(height >= 0 && height <= 99);
        int before = cairns.get(cairn)[2];
        cairns.get(cairn)[2] = height;
        return before;
    }

    boolean fix(int a, int b, boolean stay) {
        index(a, cairns.size());
        index(b, cairns.size());
        state(edges().containsKey(code(a, b)));
        boolean before = stays.contains(code(a, b));
        if (stay) {
            stays.add(code(a, b));
        } else {
            stays.remove(code(a, b));
        }
        return before;
    }

    int flip(int a, int b) {
        index(a, cairns.size());
        index(b, cairns.size());
        state(edges().containsKey(code(a, b)));
        state(edge(a, b, 4) == 1);
        List<Integer> far = edges().get(code(a, b));
        turn(a, b);
        return Math.min(far.get(0), far.get(1)) * 16 + Math.max(far.get(0), far.get(1));
    }

    int settle() {
        int turned = 0;
        while (true) {
            int next = -1;
            for (int edge : new TreeSet<>(edges().keySet())) {
                if (next < 0 && edge(edge / 32, edge % 32, 3) == 1 && !stays.contains(edge)) {
                    next = edge;
                }
            }
            if (next < 0) {
                return turned;
            }
            turn(next / 32, next % 32);
            turned++;
        }
    }

    int told(int cairn, int what) {
        index(cairn, cairns.size());
        index(what, 5);
        if (what < 3) {
            return cairns.get(cairn)[what];
        }
        int found = 0;
        if (what == 3) {
            for (int edge : edges().keySet()) {
                found += edge / 32 == cairn || edge % 32 == cairn ? 1 : 0;
            }
            return found;
        }
        for (int triangle : triangles) {
            for (int corner : corners(triangle)) {
                found += corner == cairn ? 1 : 0;
            }
        }
        return found;
    }

    int triangle(int triangle, int what) {
        index(triangle, triangles.size());
        index(what, 4);
        int[] c = corners(new ArrayList<>(triangles).get(triangle));
        return what < 3 ? c[what] : area(xy(c[0]), xy(c[1]), xy(c[2]));
    }

    int edge(int a, int b, int what) {
        index(a, cairns.size());
        index(b, cairns.size());
        index(what, 5);
        List<Integer> far = a == b ? null : edges().get(code(a, b));
        if (far == null) {
            return 0;
        }
        boolean stay = stays.contains(code(a, b));
        if (what == 0) {
            return 1;
        }
        if (what == 1) {
            return far.size() == 1 ? 1 : 0;
        }
        if (what == 2) {
            return stay ? 1 : 0;
        }
        if (far.size() == 1) {
            return 0;
        }
        int[] c = xy(far.get(0));
        int[] d = xy(far.get(1));
        if (what == 3) {
            boolean one = within(xy(a), xy(b), c, d);
            if (one != within(xy(a), xy(b), d, c)) {
                throw new AssertionError("unfair from one side alone");
            }
            return one ? 1 : 0;
        }
        long sides = (long) signed(c, d, xy(a)) * signed(c, d, xy(b));
        return !stay && area(c, d, xy(a)) > 0 && area(c, d, xy(b)) > 0 && sides < 0 ? 1 : 0;
    }

    int count(int what) {
        index(what, 7);
        if (what == 0) {
            return cairns.size();
        }
        if (what == 1) {
            return triangles.size();
        }
        if (what == 6) {
            return flips;
        }
        int found = 0;
        for (int edge : edges().keySet()) {
            found += edge(edge / 32, edge % 32, what - 2);
        }
        return found;
    }

    int at(int x, int y) {
        place(x, y);
        int number = 0;
        for (int triangle : triangles) {
            if (covers(corners(triangle), x, y)) {
                return number;
            }
            number++;
        }
        throw new AssertionError("no triangle at " + x + ", " + y);
    }

    int height(int x, int y) {
        int[] c = corners(new ArrayList<>(triangles).get(at(x, y)));
        int[] p = {x, y};
        long sum = (long) cairns.get(c[0])[2] * area(p, xy(c[1]), xy(c[2]))
                + (long) cairns.get(c[1])[2] * area(p, xy(c[0]), xy(c[2]))
                + (long) cairns.get(c[2])[2] * area(p, xy(c[0]), xy(c[1]));
        return (int) (sum / area(xy(c[0]), xy(c[1]), xy(c[2])));
    }

    int nearest(int x, int y) {
        place(x, y);
        int best = -1;
        int bestSquare = Integer.MAX_VALUE;
        for (int i = 0; i < cairns.size(); i++) {
            int dx = cairns.get(i)[0] - x;
            int dy = cairns.get(i)[1] - y;
            if (dx * dx + dy * dy < bestSquare) {
                best = i;
                bestSquare = dx * dx + dy * dy;
            }
        }
        return best;
    }

    int circles(int x, int y) {
        place(x, y);
        int found = 0;
        for (int triangle : triangles) {
            int[] c = corners(triangle);
            found += within(xy(c[0]), xy(c[1]), xy(c[2]), new int[] {x, y}) ? 1 : 0;
        }
        return found;
    }

    int way(int a, int b) {
        index(a, cairns.size());
        index(b, cairns.size());
        int[] far = new int[cairns.size()];
        java.util.Arrays.fill(far, 1000);
        far[a] = 0;
        for (int round = 0; round < far.length; round++) {
            for (int edge : edges().keySet()) {
                far[edge / 32] = Math.min(far[edge / 32], far[edge % 32] + 1);
                far[edge % 32] = Math.min(far[edge % 32], far[edge / 32] + 1);
            }
        }
        return far[b];
    }

    int settles() {
        return new NaiveMoor(this).settle();
    }

    int would(int x, int y) {
        place(x, y);
        state(cairnAt(x, y) < 0);
        NaiveMoor other = new NaiveMoor(this);
        other.put(x, y, 0);
        return other.count(5);
    }

    double mean() {
        int sum = 0;
        for (int i = 0; i < cairns.size(); i++) {
            sum += told(i, 3);
        }
        return (double) sum / cairns.size();
    }

    long digest() {
        List<Integer> told = new ArrayList<>();
        for (int what = 0; what < 7; what++) {
            told.add(count(what));
        }
        for (int i = 0; i < cairns.size(); i++) {
            for (int what = 0; what < 5; what++) {
                told.add(told(i, what));
            }
        }
        for (int i = 0; i < triangles.size(); i++) {
            for (int what = 0; what < 4; what++) {
                told.add(triangle(i, what));
            }
        }
        for (int edge : new TreeSet<>(edges().keySet())) {
            told.add(edge / 32);
            told.add(edge % 32);
            for (int what = 2; what < 5; what++) {
                told.add(edge(edge / 32, edge % 32, what));
            }
        }
        long d = 1433;
        for (int x : told) {
            d = d * 31 + x;
        }
        return d;
    }

    /** Twice the areas of all triangles, and that none has a cairn in it or on it but its corners. */
    void check() {
        int sum = 0;
        for (int triangle : triangles) {
            int[] c = corners(triangle);
            sum += area(xy(c[0]), xy(c[1]), xy(c[2]));
            for (int i = 0; i < cairns.size(); i++) {
                boolean corner = i == c[0] || i == c[1] || i == c[2];
                if (!corner && covers(c, cairns.get(i)[0], cairns.get(i)[1])) {
                    throw new AssertionError("a cairn in a triangle");
                }
            }
        }
        if (sum != 1800) {
            throw new AssertionError("the triangles do not cover the square once");
        }
        if (!edges().keySet().containsAll(stays)) {
            throw new AssertionError("no edge there has to stay");
        }
    }

    private int put(int x, int y, int height) {
        int n = cairns.size();
        TreeSet<Integer> old = new TreeSet<>(triangles);
        TreeSet<Integer> oldStays = new TreeSet<>(stays);
        cairns.add(new int[] {x, y, height});
        for (int triangle : old) {
            int[] c = corners(triangle);
            if (!covers(c, x, y)) {
                continue;
            }
            triangles.remove(triangle);
            for (int i = 0; i < 3; i++) {
                int a = c[i];
                int b = c[(i + 1) % 3];
                if (area(xy(a), xy(b), xy(n)) > 0) {
                    triangles.add(code(a, b, n));
                } else if (oldStays.contains(code(a, b))) {
                    stays.remove(code(a, b));
                    stays.add(code(a, n));
                    stays.add(code(b, n));
                }
            }
        }
        return n;
    }

    private void turn(int a, int b) {
        List<Integer> far = edges().get(code(a, b));
        int c = far.get(0);
        int d = far.get(1);
        triangles.remove(code(a, b, c));
        triangles.remove(code(a, b, d));
        triangles.add(code(c, d, a));
        triangles.add(code(c, d, b));
        flips++;
    }

    private Map<Integer, List<Integer>> edges() {
        Map<Integer, List<Integer>> edges = new HashMap<>();
        for (int triangle : triangles) {
            int[] c = corners(triangle);
            for (int i = 0; i < 3; i++) {
                int edge = code(c[(i + 1) % 3], c[(i + 2) % 3]);
                edges.computeIfAbsent(edge, k -> new ArrayList<>()).add(c[i]);
            }
        }
        return edges;
    }

    private int[] xy(int cairn) {
        return cairns.get(cairn);
    }

    private int cairnAt(int x, int y) {
        for (int i = 0; i < cairns.size(); i++) {
            if (cairns.get(i)[0] == x && cairns.get(i)[1] == y) {
                return i;
            }
        }
        return -1;
    }

    private static int signed(int[] a, int[] b, int[] c) {
        return (b[0] - a[0]) * (c[1] - a[1]) - (b[1] - a[1]) * (c[0] - a[0]);
    }

    private static int area(int[] a, int[] b, int[] c) {
        return Math.abs(signed(a, b, c));
    }

    /** A place is in a triangle, or on it, if it cuts it into parts of the same area in all. */
    private boolean covers(int[] c, int x, int y) {
        int[] p = {x, y};
        int parts = area(p, xy(c[0]), xy(c[1])) + area(p, xy(c[1]), xy(c[2])) + area(p, xy(c[0]), xy(c[2]));
        return parts == area(xy(c[0]), xy(c[1]), xy(c[2]));
    }

    /** By the circle's centre, all lengths taken 2 * signed(a, b, c) times. */
    private static boolean within(int[] a, int[] b, int[] c, int[] p) {
        long d = 2L * signed(a, b, c);
        long sa = (long) a[0] * a[0] + (long) a[1] * a[1];
        long sb = (long) b[0] * b[0] + (long) b[1] * b[1];
        long sc = (long) c[0] * c[0] + (long) c[1] * c[1];
        long ux = sa * (b[1] - c[1]) + sb * (c[1] - a[1]) + sc * (a[1] - b[1]);
        long uy = sa * (c[0] - b[0]) + sb * (a[0] - c[0]) + sc * (b[0] - a[0]);
        return square(p[0] * d - ux, p[1] * d - uy) < square(a[0] * d - ux, a[1] * d - uy);
    }

    private static long square(long x, long y) {
        return x * x + y * y;
    }

    private static void place(int x, int y) {
        argument(x >= 0 && x <= 30 && y >= 0 && y <= 30);
    }

    private static void argument(boolean holds) {
        if (!holds) {
            throw new IllegalArgumentException();
        }
    }

    private static void state(boolean holds) {
        if (!holds) {
            throw new IllegalStateException();
        }
    }

    private static void index(int number, int end) {
        if (number < 0 || number >= end) {
            throw new IndexOutOfBoundsException();
        }
    }
}
