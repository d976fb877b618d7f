/**
 * Promises 5 and 6, the marks themselves: when a set changes and its signature's mark is moved by
 * just what the digests differ, then the signature is good again, and only then.
 */
public final class Promise05MarkTest {
    private static final int TOP = World.ROOT_KEY;
    private static final int OWNER = Due.name(4, 5, 6);

    public static void main(String[] args) {
        plain();
        star();
        root();
        longSets();
        anEmptySetIsNeverGood();
        Due.end();
    }

    private static World timed() {
        World w = World.rooted();
        w.x.tick(500);
        w.x.window(300, 700);
        return w;
    }

    private static void plain() {
        World w = timed();
        w.x.add(OWNER, Due.HOST, 8);
        int number = w.signed(OWNER, Due.HOST, -9, 0, TOP);
        int before = Due.digest(TOP, 0, Due.HOST, 3, 300, 700, OWNER, -9, 8);
        w.x.add(OWNER, Due.HOST, Integer.MIN_VALUE);
        int after = Due.digest(TOP, 0, Due.HOST, 3, 300, 700, OWNER, Integer.MIN_VALUE, -9, 8);
        Due.asked("changed", w.x, OWNER, Due.HOST, TrustResolver.FALSE, 11);
        w.x.spoil(number, after - before);
        Due.asked("moved", w.x, OWNER, Due.HOST, TrustResolver.TRUE, 8);
    }

    private static void star() {
        for (int labels = 0; labels < 3; labels++) {
            World w = timed();
            w.x.add(OWNER, Due.KEY, 7);
            int number = w.sign(OWNER, Due.KEY, 0, TOP, labels);
            int signed = new int[] {Due.name(1), Due.name(4, 1), Due.name(4, 5, 1)}[labels];
            int before = Due.digest(TOP, 0, Due.KEY, labels, 300, 700, signed, 7);
            w.x.drop(OWNER, Due.KEY);
            w.x.add(OWNER, Due.KEY, 1000000);
            int after = Due.digest(TOP, 0, Due.KEY, labels, 300, 700, signed, 1000000);
            Due.asked("changed", w.x, OWNER, Due.KEY, TrustResolver.FALSE, 11);
            w.x.spoil(number, after - before);
            Due.asked("moved", w.x, OWNER, Due.KEY, TrustResolver.FALSE, 10);
        }
    }

    private static void root() {
        World w = new World();
        int zone = Due.name(9);
        w.x.anchor(zone, w.x.seal(zone, 22));
        w.holdKeys(zone, 22);
        int before = Due.digest(22, zone, Due.KEY, 1, 0, 1000, zone, 22);
        w.x.add(zone, Due.KEY, 5);
        int after = Due.digest(22, zone, Due.KEY, 1, 0, 1000, zone, 5, 22);
        Due.asked("changed", w.x, zone, Due.KEY, TrustResolver.FALSE, 4);
        w.x.spoil(0, after - before);
        Due.asked("moved", w.x, zone, Due.KEY, TrustResolver.TRUE, 8);
    }

    private static void longSets() {
        World w = World.rooted();
        int[] before = {TOP, 0, Due.CUT, 0, 0, 1000, 0, -20};
        int[] after = new int[7 + 41];
        System.arraycopy(before, 0, after, 0, 7);
        int number = w.signed(0, Due.CUT, -20, 0, TOP);
        for (int k = 40; k >= 0; k--) {
            w.x.add(0, Due.CUT, k - 20);
            after[7 + k] = k - 20;
        }
        w.x.spoil(number, Due.digest(after) - Due.digest(before));
        Due.asked("forty-one", w.x, 0, Due.CUT, TrustResolver.TRUE, 8);
        Due.is("the last", w.x.answer(40), 20);
    }

    private static void anEmptySetIsNeverGood() {
        World w = World.rooted();
        int number = w.signed(OWNER, Due.NEXT, 0, 0, TOP);
        Due.asked("there", w.x, OWNER, Due.HOST, TrustResolver.TRUE, 12);
        w.x.drop(OWNER, Due.NEXT);
        w.x.spoil(number, Due.digest(TOP, 0, Due.NEXT, 3, 0, 1000, OWNER)
                - Due.digest(TOP, 0, Due.NEXT, 3, 0, 1000, OWNER, 0));
        Due.asked("empty", w.x, OWNER, Due.HOST, TrustResolver.FALSE, 14);
    }
}
