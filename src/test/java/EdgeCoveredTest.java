/** The edges of COVERED: 'a < x', and 'x < b, or b = z (as ints)', on both sides and at their touch. */
public final class EdgeCoveredTest {
    private static final int TOP = Past.TOP;
    private static final int ZONE = Due.name(5);
    private static final int X = Due.name(5, 7);

    public static void main(String[] args) {
        ownerIsLess();
        nameIsGreater();
        nameIsTheZone();
        nameIsAnotherZone();
        byOneOwnerAlone();
        asInts();
        leastDataAlone();
        whereTheNamesEnd();
        Due.end();
    }

    /** The root, or the zone 5 below it as an anchor of its own; in it 5.7, which is signed as a star's. */
    private static World starred(int zone) {
        World w = new World();
        w.holdKeys(zone, TOP);
        w.x.anchor(zone, w.x.seal(zone, TOP));
        w.x.add(X, Due.HOST, 1);
        w.sign(X, Due.HOST, zone, TOP, 1);
        return w;
    }

    private static void covers(String what, int zone, int a, int b, boolean due) {
        World w = starred(zone);
        w.signed(a, Due.NEXT, Due.next(b, Due.HOST, Due.NEXT), zone, TOP);
        Due.says(what + ", " + a + " to " + b, w.x, X, Due.HOST, due ? 9 : 10);
        Due.is(what + ": answer", w.x.answer(0), due ? 1 : 0);
    }

    /** 'a < x'. */
    private static void ownerIsLess() {
        int far = Due.name(9);
        covers("just before x", 0, Due.nameBefore(X), far, true);
        covers("x itself", 0, X, far, false);
        covers("just behind x", 0, Due.nameAfter(X), far, false);
        covers("the root", 0, 0, far, true);
        covers("the zone", ZONE, ZONE, far, true);
        covers("the greatest of all", 0, Past.LAST, far, false);
    }

    /** 'x < b'. */
    private static void nameIsGreater() {
        for (int zone = 0; zone <= ZONE; zone += ZONE) {
            covers("just before x", zone, ZONE, Due.nameBefore(X), false);
            covers("x itself", zone, ZONE, X, false);
            covers("just behind x", zone, ZONE, Due.nameAfter(X), true);
            covers("the greatest of all", zone, ZONE, Past.LAST, true);
        }
    }

    /** 'or b = z': then only 'a < x' is asked for. */
    private static void nameIsTheZone() {
        for (int zone = 0; zone <= ZONE; zone += ZONE) {
            covers("from the zone to itself", zone, zone, zone, true);
            covers("from just before x", zone, Due.nameBefore(X), zone, true);
            covers("from x itself", zone, X, zone, false);
            covers("from just behind x", zone, Due.nameAfter(X), zone, false);
        }
    }

    private static void nameIsAnotherZone() {
        covers("to the root, from 5", ZONE, ZONE, 0, false);
        covers("to 5, from the root", 0, 0, ZONE, false);
        covers("just before the zone", ZONE, ZONE, Due.nameBefore(ZONE), false);
        covers("just behind the zone", ZONE, ZONE, Due.nameAfter(ZONE), false);
    }

    /** Two of them that meet at x, or that would cover x only together. */
    private static void byOneOwnerAlone() {
        World w = starred(0);
        w.signed(0, Due.NEXT, Due.next(X), 0, TOP);
        w.signed(X, Due.NEXT, Due.next(0), 0, TOP);
        Due.says("they meet at x", w.x, X, Due.HOST, 10);
        w.signed(Due.name(9), Due.NEXT, Due.next(Due.name(10)), 0, TOP);
        Due.says("one ends before, one begins behind", w.x, X, Due.HOST, 10);
        w.signed(Due.name(4), Due.NEXT, Due.next(Due.name(6)), 0, TOP);
        Due.says("a third one covers x", w.x, X, Due.HOST, 9);
        w.x.drop(Due.name(4), Due.NEXT);
        Due.says("dropped since", w.x, X, Due.HOST, 10);
    }

    /** What is above x is less than x, what is below x is greater: the labels are no matter otherwise. */
    private static void asInts() {
        covers("to a name below x", 0, ZONE, Due.name(5, 7, 1, 1), true);
        covers("to a name beside, less", 0, ZONE, Due.name(5, 6, 27, 27), false);
        covers("from a name below a lesser one", 0, Due.name(4, 27, 27, 27), Due.name(6), true);
        covers("from a name below x", 0, Due.name(5, 7, 1, 1), Due.name(6), false);
        covers("backwards", 0, Due.name(6), Due.name(4), false);
    }

    /** 'the name that its least data tells': least with its types, which weigh more than its name. */
    private static void leastDataAlone() {
        World w = starred(0);
        w.x.add(ZONE, Due.NEXT, Due.next(Due.name(9), Due.CUT));
        w.sign(ZONE, Due.NEXT, 0, TOP);
        Due.says("to 9", w.x, X, Due.HOST, 9);
        w.x.add(ZONE, Due.NEXT, Due.next(Due.name(5, 6), Due.SEAL));
        w.sign(ZONE, Due.NEXT, 0, TOP);
        Due.says("a lesser name in greater data", w.x, X, Due.HOST, 9);
        w.x.add(ZONE, Due.NEXT, Due.next(Due.name(5, 6), Due.HOST));
        Due.says("a lesser data, not signed", w.x, X, Due.HOST, 10);
        w.sign(ZONE, Due.NEXT, 0, TOP);
        Due.says("a lesser data", w.x, X, Due.HOST, 10);
    }

    /** The least and the greatest names that can be asked for, covered to the zone's own name. */
    private static void whereTheNamesEnd() {
        World w = World.rooted();
        w.signed(0, Due.NEXT, Due.next(0), 0, TOP);
        Due.says("the least below the root", w.x, Due.name(1), Due.HOST, 15);
        Due.says("the greatest of all", w.x, Past.LAST, Due.HOST, 15);
        w.signed(Past.LAST, Due.NEXT, Due.next(0), 0, TOP);
        Due.says("the greatest of all, told", w.x, Past.LAST, Due.HOST, 12);
        w.x.drop(0, Due.NEXT);
        Due.says("the least, with the greatest one's NEXT alone", w.x, Due.name(1), Due.HOST, 14);
    }
}
