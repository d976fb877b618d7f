/** Promise 6: spoil. */
public final class Promise06SpoilTest {
    private static final int OWNER = Due.name(4);

    public static void main(String[] args) {
        which();
        spoiledAndMended();
        wraps();
        onlyThatOne();
        Due.end();
    }

    private static void which() {
        TrustResolver x = new TrustResolver();
        Due.is("no signature", x.spoil(0, 0), false);
        x.add(OWNER, Due.HOST, 1);
        x.sign(OWNER, Due.HOST, 0, 1, 1);
        x.sign(OWNER, Due.HOST, 0, 1, 1);
        Due.is("first", x.spoil(0, 5), true);
        Due.is("last", x.spoil(1, 5), true);
        Due.is("behind", x.spoil(2, 5), false);
        Due.is("-1", x.spoil(-1, 5), false);
        Due.is("least", x.spoil(Integer.MIN_VALUE, 5), false);
        Due.is("greatest", x.spoil(Integer.MAX_VALUE, 5), false);
    }

    private static void spoiledAndMended() {
        World w = World.rooted();
        int number = w.signed(OWNER, Due.HOST, 1, 0, World.ROOT_KEY);
        Due.is("by 0", w.x.spoil(number, 0), true);
        Due.asked("by 0", w.x, OWNER, Due.HOST, TrustResolver.TRUE, 8);
        w.x.spoil(number, 1);
        Due.asked("by 1", w.x, OWNER, Due.HOST, TrustResolver.FALSE, 11);
        w.x.spoil(number, 6);
        w.x.spoil(number, -7);
        Due.asked("mended", w.x, OWNER, Due.HOST, TrustResolver.TRUE, 8);
    }

    private static void wraps() {
        World w = World.rooted();
        int number = w.signed(OWNER, Due.HOST, 1, 0, World.ROOT_KEY);
        w.x.spoil(number, Integer.MAX_VALUE);
        Due.asked("far", w.x, OWNER, Due.HOST, TrustResolver.FALSE, 11);
        w.x.spoil(number, Integer.MAX_VALUE);
        Due.asked("farther", w.x, OWNER, Due.HOST, TrustResolver.FALSE, 11);
        w.x.spoil(number, 2);
        Due.asked("round", w.x, OWNER, Due.HOST, TrustResolver.TRUE, 8);
        w.x.spoil(number, Integer.MIN_VALUE);
        Due.asked("half round", w.x, OWNER, Due.HOST, TrustResolver.FALSE, 11);
        w.x.spoil(number, Integer.MIN_VALUE);
        Due.asked("round again", w.x, OWNER, Due.HOST, TrustResolver.TRUE, 8);
    }

    private static void onlyThatOne() {
        World w = World.rooted();
        int first = w.signed(OWNER, Due.HOST, 1, 0, World.ROOT_KEY);
        int second = w.sign(OWNER, Due.HOST, 0, World.ROOT_KEY);
        w.x.spoil(first, 1);
        Due.asked("the other holds", w.x, OWNER, Due.HOST, TrustResolver.TRUE, 8);
        w.x.spoil(second, 1);
        Due.asked("none holds", w.x, OWNER, Due.HOST, TrustResolver.FALSE, 11);
        w.x.spoil(0, 3);
        Due.asked("the keys", w.x, OWNER, Due.HOST, TrustResolver.FALSE, 4);
    }
}
