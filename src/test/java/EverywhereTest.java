/**
 * Some moors asked about every place, every two cairns and every triangle, beside NaiveMoor on
 * which the same was done. Each object is asked a row of questions, so none more than 512 times.
 */
public final class EverywhereTest {
    private final String name;
    private final Making making;
    private MoorTriangles moor;
    private NaiveMoor naive;

    /** What is done to both moors before they are asked. */
    private interface Making {
        void with(EverywhereTest both);
    }

    private EverywhereTest(String name, Making making) {
        this.name = name;
        this.making = making;
    }

    public static void main(String[] args) {
        ask("new", both -> { });
        ask("other two triangles", both -> both.flip(0, 2));
        ask("grid of ten", both -> both.grid());
        ask("grid of ten, settled", both -> {
            both.grid();
            both.settle();
        });
        ask("all sides", both -> both.sides());
        ask("all sides, settled", both -> {
            both.sides();
            both.settle();
        });
        ask("scattered", both -> both.scatter());
        ask("scattered, settled", both -> {
            both.scatter();
            both.settle();
        });
        ask("settled round edges that stay", both -> {
            both.fix(0, 2);
            both.fix(1, 2);
            both.scatter();
            both.settle();
        });
        ask("two short of sixteen, on the diagonal that stays", both -> both.diagonal());
        Due.end();
    }

    private static void ask(String name, Making making) {
        EverywhereTest both = new EverywhereTest(name, making);
        for (int y = 0; y <= 30; y++) {
            both.make();
            both.askRow(y);
        }
        both.make();
        int cairns = both.naive.cairns.size();
        for (int cairn = 0; cairn < cairns; cairn++) {
            both.make();
            both.askCairn(cairn, cairns);
        }
        both.make();
        both.askTriangles();
        both.askTheRest();
        both.naive.check();
    }

    private void make() {
        moor = new MoorTriangles();
        naive = new NaiveMoor();
        making.with(this);
    }

    // ---- what is done

    private void build(int x, int y) {
        int height = (x * 37 + y * 11) % 100;
        is("build(" + x + ", " + y + ")", naive.build(x, y, height), () -> moor.build(x, y, height));
    }

    private void flip(int a, int b) {
        is("flip(" + a + ", " + b + ")", naive.flip(a, b), () -> moor.flip(a, b));
    }

    private void fix(int a, int b) {
        is("fix(" + a + ", " + b + ", true)", naive.fix(a, b, true), () -> moor.fix(a, b, true));
    }

    private void settle() {
        is("settle()", naive.settle(), moor::settle);
    }

    /** Many cairns on one line, and many on one circle. */
    private void grid() {
        for (int x = 0; x <= 30; x += 10) {
            for (int y = 0; y <= 30; y += 10) {
                boolean corner = (x == 0 || x == 30) && (y == 0 || y == 30);
                if (!corner) {
                    build(x, y);
                }
            }
        }
    }

    private void sides() {
        for (int along : new int[] {7, 15, 28}) {
            build(along, 0);
            build(30, along);
            build(30 - along, 30);
            build(0, along);
        }
    }

    private void scatter() {
        for (int i = 0; i < 12; i++) {
            build(2 + i * 11 % 27, 3 + i * 7 % 25);
        }
    }

    private void diagonal() {
        fix(2, 0);
        for (int along : new int[] {10, 3, 27, 28, 14}) {
            build(along, along);
            build(along, 29 - along / 2);
        }
    }

    // ---- what is asked

    private void askRow(int y) {
        for (int x = 0; x <= 30; x++) {
            int px = x;
            String at = "(" + x + ", " + y + ")";
            is("at" + at, naive.at(px, y), () -> moor.at(px, y));
            is("height" + at, naive.height(px, y), () -> moor.height(px, y));
            is("nearest" + at, naive.nearest(px, y), () -> moor.nearest(px, y));
            is("circles" + at, naive.circles(px, y), () -> moor.circles(px, y));
            is("would" + at, Due.outcome(() -> naive.would(px, y)), () -> moor.would(px, y));
        }
    }

    private void askCairn(int cairn, int cairns) {
        for (int other = 0; other < cairns; other++) {
            int b = other;
            String two = cairn + ", " + other;
            is("way(" + two + ")", naive.way(cairn, b), () -> moor.way(cairn, b));
            for (int what = 0; what < 5; what++) {
                int which = what;
                is("edge(" + two + ", " + what + ")", naive.edge(cairn, b, what), () -> moor.edge(cairn, b, which));
            }
        }
        for (int what = 0; what < 5; what++) {
            int which = what;
            is("told(" + cairn + ", " + what + ")", naive.told(cairn, what), () -> moor.told(cairn, which));
        }
    }

    private void askTriangles() {
        for (int triangle = 0; triangle < naive.triangles.size(); triangle++) {
            int number = triangle;
            for (int what = 0; what < 4; what++) {
                int which = what;
                is("triangle(" + triangle + ", " + what + ")", naive.triangle(triangle, what),
                        () -> moor.triangle(number, which));
            }
        }
    }

    private void askTheRest() {
        for (int what = 0; what < 7; what++) {
            int which = what;
            is("count(" + what + ")", naive.count(what), () -> moor.count(which));
        }
        is("mean()", naive.mean(), moor::mean);
        is("settles()", naive.settles(), moor::settles);
        is("digest()", naive.digest(), moor::digest);
    }

    private void is(String what, Object want, Due.Call call) {
        Due.is(name + ": " + what, want, call);
    }
}
