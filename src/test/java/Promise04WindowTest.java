/** Promise 4: window. */
public final class Promise04WindowTest {
    private static final int OWNER = Due.name(4);

    public static void main(String[] args) {
        wrong();
        edges();
        onlyNewOnes();
        wrongChangesNothing();
        Due.end();
    }

    private static void wrong() {
        TrustResolver x = new TrustResolver();
        Due.is("first -1", x.window(-1, 5), false);
        Due.is("first least", x.window(Integer.MIN_VALUE, 5), false);
        Due.is("last below first", x.window(5, 4), false);
        Due.is("last negative", x.window(0, -1), false);
        Due.is("one time", x.window(5, 5), true);
        Due.is("zero", x.window(0, 0), true);
        Due.is("greatest", x.window(Integer.MAX_VALUE, Integer.MAX_VALUE), true);
    }

    private static void edges() {
        World w = World.rooted();
        w.x.window(3, 5);
        w.signed(OWNER, Due.HOST, 1, 0, World.ROOT_KEY);
        for (int time = 0; time <= 7; time++) {
            boolean in = time >= 3 && time <= 5;
            Due.asked("time " + time, w.x, OWNER, Due.HOST,
                    in ? TrustResolver.TRUE : TrustResolver.FALSE, in ? 8 : 11);
            w.x.tick(1);
        }
    }

    private static void onlyNewOnes() {
        World w = World.rooted();
        w.signed(OWNER, Due.HOST, 1, 0, World.ROOT_KEY);
        w.x.window(2000, 3000);
        Due.asked("old one keeps", w.x, OWNER, Due.HOST, TrustResolver.TRUE, 8);
        w.sign(OWNER, Due.HOST, 0, World.ROOT_KEY);
        w.sign(0, Due.KEY, 0, World.ROOT_KEY);
        w.x.tick(1500);
        Due.asked("neither", w.x, OWNER, Due.HOST, TrustResolver.FALSE, 4);
        w.x.tick(500);
        Due.asked("new ones", w.x, OWNER, Due.HOST, TrustResolver.TRUE, 8);
    }

    private static void wrongChangesNothing() {
        World w = World.rooted();
        w.x.window(0, 10);
        w.x.window(20, 15);
        w.x.window(-5, 30);
        w.signed(OWNER, Due.HOST, 1, 0, World.ROOT_KEY);
        w.x.tick(10);
        Due.asked("time 10", w.x, OWNER, Due.HOST, TrustResolver.TRUE, 8);
        w.x.tick(1);
        Due.asked("time 11", w.x, OWNER, Due.HOST, TrustResolver.FALSE, 11);
    }
}
