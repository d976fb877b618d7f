/** An object with all that it can hold still answers, and no argument makes a call throw. */
public final class FullTest {
    private static final int TOP = World.ROOT_KEY;
    private static final int[] EDGES = {
        Integer.MIN_VALUE, -2, -1, 0, 1, 2, 3, 4, 5, 6, 31, 32, 33, 47, 48, 49, 1000000,
        1 << 15, 27 << 15, 1 << 20, 1 << 25, Integer.MAX_VALUE
    };

    public static void main(String[] args) {
        fullOfNexts();
        fullOfKeys();
        anyArguments();
        Due.end();
    }

    private static void fullOfNexts() {
        World w = World.rooted();
        for (int k = 1; k <= 3; k++) {
            w.x.anchor(Due.name(25, k), 1);
        }
        for (int k = 0; k < 31; k++) {
            w.signed(chainName(k), Due.NEXT, Due.next(chainName((k + 1) % 31)), 0, TOP);
        }
        for (int k = 0; k < 16; k++) {
            w.x.add(Due.name(27, 27, 27, 27), Due.HOST, k);
        }
        Due.is("records", w.x.figure(0), 48);
        Due.is("signatures", w.x.figure(1), 32);
        Due.is("more", w.x.add(0, Due.HOST, 1), TrustResolver.FULL);
        Due.asked("the last NEXT covers", w.x, Due.name(24), Due.HOST, TrustResolver.TRUE, 15);
        Due.asked("at the last NEXT", w.x, chainName(30), Due.HOST, TrustResolver.TRUE, 12);
        Due.asked("the last set", w.x, Due.name(27, 27, 27, 27), Due.HOST, TrustResolver.FALSE, 11);
    }

    /** The root, 2, 2.2, 3, 3.2, 4, ...: all rising, and none is a star. */
    private static int chainName(int k) {
        return k == 0 ? 0 : k % 2 == 1 ? Due.name(2 + k / 2) : Due.name(1 + k / 2, 2);
    }

    private static void fullOfKeys() {
        World w = new World();
        for (int k = 1; k <= 48; k++) {
            w.x.add(0, Due.KEY, k);
        }
        w.x.anchor(0, w.x.seal(0, 48));
        for (int k = 0; k < 31; k++) {
            w.sign(0, Due.KEY, 0, 100 + k);
        }
        Due.asked("not signed by the sealed key", w.x, 0, Due.KEY, TrustResolver.FALSE, 4);
        Due.is("the last signature", w.sign(0, Due.KEY, 0, 48), 31);
        Due.asked("signed by the sealed key", w.x, 0, Due.KEY, TrustResolver.TRUE, 8);
        Due.is("keys", w.x.figure(3), 48);
        Due.is("the last key", w.x.answer(47), 48);
        Due.is("none behind", w.x.answer(48), 0);
    }

    /** Run beside the model, so that a wrong answer is seen as well as a throw. */
    private static void anyArguments() {
        TrustResolver x = new TrustResolver();
        Model model = new Model();
        for (int a : EDGES) {
            one(x, model, a);
            for (int b : EDGES) {
                two(x, model, a, b);
                for (int c : EDGES) {
                    Due.is("add " + a + ", " + b + ", " + c, x.add(a, b, c), model.add(a, b, c));
                    Due.is("sign " + a + ", " + b + ", " + c, x.sign(a, b, c, 7, 0), model.sign(a, b, c, 7, 0));
                    Due.is("sign by key " + b + ", " + c, x.sign(a, 1, 0, b, c), model.sign(a, 1, 0, b, c));
                }
            }
        }
    }

    private static void one(TrustResolver x, Model model, int a) {
        Due.is("answer " + a, x.answer(a), model.answer(a));
        Due.is("zone " + a, x.zone(a), model.zone(a));
        Due.is("figure " + a, x.figure(a), model.figure(a));
        Due.is("tick " + a, x.tick(a), model.tick(a));
    }

    private static void two(TrustResolver x, Model model, int a, int b) {
        String with = " " + a + ", " + b;
        Due.is("window" + with, x.window(a, b), model.window(a, b));
        Due.is("spoil" + with, x.spoil(a, b), model.spoil(a, b));
        Due.is("seal" + with, x.seal(a, b), model.seal(a, b));
        Due.is("anchor" + with, x.anchor(a, b), model.anchor(a, b));
        Due.is("above" + with, x.above(a, b), model.above(a, b));
        Due.is("ask" + with, x.ask(a, b), model.ask(a, b));
        Due.is("reason" + with, x.reason(), model.reason());
        Due.is("drop" + with, x.drop(a, b), model.drop(a, b));
    }
}
