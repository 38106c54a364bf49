/** README.md's example: it answers what is said there. */
public final class ReadmeTest {
    private ReadmeTest() {
    }

    public static void main(String[] args) {
        MoorTriangles moor = new MoorTriangles();
        Due.is("build(20, 10, 40)", 4, () -> moor.build(20, 10, 40));
        Due.is("count(1)", 4, () -> moor.count(1));
        Due.is("edge(0, 2, 3)", 1, () -> moor.edge(0, 2, 3));
        Due.is("settles()", 1, moor::settles);
        Due.is("settle()", 1, moor::settle);
        Due.is("triangle(1, 2)", 4, () -> moor.triangle(1, 2));
        Due.is("at(25, 10)", 2, () -> moor.at(25, 10));
        Due.is("height(25, 10)", 20, () -> moor.height(25, 10));
        Due.is("nearest(11, 5)", 4, () -> moor.nearest(11, 5));
        Due.is("way(0, 2)", 2, () -> moor.way(0, 2));
        Due.is("mean()", 3.2, moor::mean);
        Due.is("fix(3, 4, true)", false, () -> moor.fix(3, 4, true));
        Due.is("flip(3, 4)", "throws IllegalStateException", () -> moor.flip(3, 4));
        Due.is("fix(3, 4, false)", true, () -> moor.fix(3, 4, false));
        Due.is("flip(3, 4)", 16 * 0 + 2, () -> moor.flip(3, 4));
        Due.is("told(9, 0)", "throws IndexOutOfBoundsException", () -> moor.told(9, 0));
        Due.is("at(31, 0)", "throws IllegalArgumentException", () -> moor.at(31, 0));
        Due.end();
    }
}
