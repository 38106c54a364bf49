/**
 * The same calls, drawn from a written sequence of numbers, on the class and on NaiveMoor:
 * every answer and every exception has to be the same, and the digest behind each call.
 */
public final class AgainstNaiveTest {
    private static final int[] GRIDS = {1, 1, 3, 5, 10, 15};
    private static long seed = 20261119;

    private final MoorTriangles moor = new MoorTriangles();
    private final NaiveMoor naive = new NaiveMoor();
    private final int grid;
    private final int calls;
    private final String name;

    private AgainstNaiveTest(int run) {
        grid = GRIDS[run % GRIDS.length];
        calls = run % 20 == 0 ? 512 : 120;
        name = "run " + run;
    }

    public static void main(String[] args) {
        for (int run = 0; run < 600; run++) {
            new AgainstNaiveTest(run).run();
        }
        Due.end();
    }

    private static int below(int end) {
        seed = seed * 6364136223846793005L + 1442695040888963407L;
        return (int) ((seed >>> 33) % end);
    }

    private static int strange() {
        int[] some = {-1, -2, 31, 100, 16, 17, 1 << 16, Integer.MIN_VALUE, Integer.MAX_VALUE, Integer.MAX_VALUE - 1};
        return some[below(some.length)];
    }

    private static int orStrange(int number) {
        return below(60) == 0 ? strange() : number;
    }

    private int spot() {
        return orStrange(below(30 / grid + 1) * grid);
    }

    private int cairn() {
        return orStrange(below(naive.cairns.size()));
    }

    private void run() {
        for (int call = 0; call < calls; call++) {
            if (call % 2 == 1) {
                Due.is(name + " call " + call + ": digest", Due.outcome(naive::digest), moor::digest);
            } else {
                one(name + " call " + call + ": ");
            }
        }
        naive.check();
    }

    private void one(String call) {
        switch (below(8)) {
            case 0:
            case 1:
            case 2:
                change(call);
                break;
            case 3:
            case 4:
                edges(call);
                break;
            case 5:
                things(call);
                break;
            default:
                places(call);
        }
    }

    private void change(String call) {
        int x = spot();
        int y = spot();
        int a = cairn();
        int height = orStrange(below(100));
        switch (below(5)) {
            case 0:
                Due.is(call + "settle", Due.outcome(naive::settle), moor::settle);
                break;
            case 1:
                Due.is(call + "raise", Due.outcome(() -> naive.raise(a, height)), () -> moor.raise(a, height));
                break;
            default:
                Due.is(call + "build", Due.outcome(() -> naive.build(x, y, height)), () -> moor.build(x, y, height));
        }
    }

    private void edges(String call) {
        // Mostly cairns that have an edge, so that fixing and flipping mostly come about.
        int t = below(naive.triangles.size());
        int at = below(3);
        boolean drawn = below(4) == 0;
        int a = drawn ? cairn() : naive.triangle(t, at);
        int b = drawn ? cairn() : naive.triangle(t, (at + 1) % 3);
        boolean stays = below(2) == 0;
        int what = orStrange(below(5));
        switch (below(4)) {
            case 0:
                Due.is(call + "fix", Due.outcome(() -> naive.fix(a, b, stays)), () -> moor.fix(a, b, stays));
                break;
            case 1:
            case 2:
                Due.is(call + "flip", Due.outcome(() -> naive.flip(a, b)), () -> moor.flip(a, b));
                break;
            default:
                Due.is(call + "edge", Due.outcome(() -> naive.edge(a, b, what)), () -> moor.edge(a, b, what));
        }
    }

    private void things(String call) {
        int a = cairn();
        int b = cairn();
        int t = orStrange(below(naive.triangles.size() + 1));
        int what = orStrange(below(8));
        switch (below(6)) {
            case 0:
                Due.is(call + "told", Due.outcome(() -> naive.told(a, what)), () -> moor.told(a, what));
                break;
            case 1:
                Due.is(call + "triangle", Due.outcome(() -> naive.triangle(t, what)), () -> moor.triangle(t, what));
                break;
            case 2:
                Due.is(call + "count", Due.outcome(() -> naive.count(what)), () -> moor.count(what));
                break;
            case 3:
                Due.is(call + "way", Due.outcome(() -> naive.way(a, b)), () -> moor.way(a, b));
                break;
            case 4:
                Due.is(call + "settles", Due.outcome(naive::settles), moor::settles);
                break;
            default:
                Due.is(call + "mean", Due.outcome(naive::mean), moor::mean);
        }
    }

    private void places(String call) {
        int x = spot();
        int y = spot();
        switch (below(5)) {
            case 0:
                Due.is(call + "at", Due.outcome(() -> naive.at(x, y)), () -> moor.at(x, y));
                break;
            case 1:
                Due.is(call + "height", Due.outcome(() -> naive.height(x, y)), () -> moor.height(x, y));
                break;
            case 2:
                Due.is(call + "nearest", Due.outcome(() -> naive.nearest(x, y)), () -> moor.nearest(x, y));
                break;
            case 3:
                Due.is(call + "circles", Due.outcome(() -> naive.circles(x, y)), () -> moor.circles(x, y));
                break;
            default:
                Due.is(call + "would", Due.outcome(() -> naive.would(x, y)), () -> moor.would(x, y));
        }
    }
}
