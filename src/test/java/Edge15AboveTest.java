/** The edges of promise 15. */
public final class Edge15AboveTest {
    public static void main(String[] args) {
        noName();
        nearestOnes();
        rootAndDeepest();
        Due.end();
    }

    /** 'NONE - 1 (-2) when one is no name', or both, even when they are the same int. */
    private static void noName() {
        for (int no : Due.NO_NAMES) {
            Twins.changesNothing("above, first " + no, -2, x -> x.above(no, Past.HOST));
            Twins.changesNothing("above, second " + no, -2, x -> x.above(Past.HOST, no));
            Twins.changesNothing("above, both " + no, -2, x -> x.above(no, no));
        }
        Twins.changesNothing("above, two that are none", -2, x -> x.above(1, -1));
    }

    /** A name is itself, is above the least name behind it, and is not above the one before it. */
    private static void nearestOnes() {
        int[] names = {Due.name(1), Due.name(5), Due.name(5, 7), Due.name(5, 7, 27), Due.name(26, 27, 27)};
        for (int name : names) {
            TrustResolver x = new TrustResolver();
            Due.is("itself", x.above(name, name), 0);
            Due.is("its star", x.above(name, Due.nameAfter(name)), -1);
            Due.is("the star and it", x.above(Due.nameAfter(name), name), 1);
            Due.is("the name before it", x.above(name, Due.nameBefore(name)), 1);
            int lastBelow = name | 27 << (15 - 5 * World.depth(name));
            Due.is("the last below it", x.above(name, lastBelow), -1);
        }
    }

    private static void rootAndDeepest() {
        TrustResolver x = new TrustResolver();
        int[] deepest = {Due.name(1, 1, 1, 1), Due.name(5, 7, 3, 2), Past.LAST};
        Due.is("the root is itself", x.above(0, 0), 0);
        for (int name : deepest) {
            Due.is("the root is above", x.above(0, name), -1);
            Due.is("and not below", x.above(name, 0), 1);
            Due.is("itself", x.above(name, name), 0);
            Due.is("nothing is below it", x.above(name, Due.nameAfter(name)), 1);
            Due.is("three labels of it", x.above(name >> 5 << 5, name), -1);
            Due.is("beside it", x.above(name, Due.nameBefore(name)), 1);
        }
    }
}
