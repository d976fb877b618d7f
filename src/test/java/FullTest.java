/** An object with all that it can hold still answers, and no argument makes a call throw. */
public final class FullTest {
    private static final int TOP = World.ROOT_KEY;
    private static final int[] EDGES = {
        Integer.MIN_VALUE, -2, -1, 0, 1, 2, 3, 4, 5, 6, 31, 32, 33, 47, 48, 49, 1000000,
        1 << 15, 27 << 15, 1 << 20, 1 << 25, Integer.MAX_VALUE
    };

    public static void main(String[] args) {
        fullOfNexts();
        fullOfKeys();
        anyArguments();
        anyArgumentsInAnyState();
        Due.end();
    }

    private static void fullOfNexts() {
        World w = World.rooted();
        for (int k = 1; k <= 3; k++) {
            w.x.anchor(Due.name(25, k), 1);
        }
        for (int k = 0; k < 31; k++) {
            w.signed(chainName(k), Due.NEXT, Due.next(chainName((k + 1) % 31)), 0, TOP);
        }
        for (int k = 0; k < 16; k++) {
            w.x.add(Due.name(27, 27, 27, 27), Due.HOST, k);
        }
        Due.is("records", w.x.figure(0), 48);
        Due.is("signatures", w.x.figure(1), 32);
        Due.is("more", w.x.add(0, Due.HOST, 1), TrustResolver.FULL);
        Due.asked("the last NEXT covers", w.x, Due.name(24), Due.HOST, TrustResolver.TRUE, 15);
        Due.asked("at the last NEXT", w.x, chainName(30), Due.HOST, TrustResolver.TRUE, 12);
        Due.asked("the last set", w.x, Due.name(27, 27, 27, 27), Due.HOST, TrustResolver.FALSE, 11);
    }

    /** The root, 2, 2.2, 3, 3.2, 4, ...: all rising, and none is a star. */
    private static int chainName(int k) {
        return k == 0 ? 0 : k % 2 == 1 ? Due.name(2 + k / 2) : Due.name(1 + k / 2, 2);
    }

    private static void fullOfKeys() {
        World w = new World();
        for (int k = 1; k <= 48; k++) {
            w.x.add(0, Due.KEY, k);
        }
        w.x.anchor(0, w.x.seal(0, 48));
        for (int k = 0; k < 31; k++) {
            w.sign(0, Due.KEY, 0, 100 + k);
        }
        Due.asked("not signed by the sealed key", w.x, 0, Due.KEY, TrustResolver.FALSE, 4);
        Due.is("the last signature", w.sign(0, Due.KEY, 0, 48), 31);
        Due.asked("signed by the sealed key", w.x, 0, Due.KEY, TrustResolver.TRUE, 8);
        Due.is("keys", w.x.figure(3), 48);
        Due.is("the last key", w.x.answer(47), 48);
        Due.is("none behind", w.x.answer(48), 0);
    }

    /** Run beside the model, so that a wrong answer is seen as well as a throw. */
    private static void anyArguments() {
        for (int a : EDGES) {
            for (int b : EDGES) {
                Both both = small();
                one(both, a);
                two(both, a, b);
                for (int c : EDGES) {
                    both.add(a, b, c);
                    both.sign(a, b, c, 7, 0);
                    both.sign(a, Due.HOST, 0, b, c);
                    both.ask(c, b);
                    both.reason();
                }
            }
        }
    }

    /** Nothing may be thrown, whatever was before: what is answered, other tests see to. */
    private static void anyArgumentsInAnyState() {
        for (Past past : Past.values()) {
            for (int a : EDGES) {
                for (int b : EDGES) {
                    everyCall(past.made(), a, b);
                }
            }
        }
    }

    private static void everyCall(TrustResolver x, int a, int b) {
        for (int c = -1; c <= 6; c++) {
            x.sign(a, c, b, Past.TOP, c);
            x.sign(Past.HOST, c, a, b, c);
            x.add(a, c, b);
            x.ask(a, c);
            x.answer(b);
        }
        x.window(a, b);
        x.spoil(a, b);
        x.seal(a, b);
        x.anchor(a, b);
        x.tick(a);
        x.zone(a);
        x.figure(a);
        x.above(a, b);
        x.drop(a, b);
        x.ask(Past.HOST, Due.HOST);
        Due.is("a reason", x.reason() >= 1 && x.reason() <= 17, true);
    }

    private static Both small() {
        Both both = new Both();
        for (int type = Due.HOST; type <= Due.NEXT; type++) {
            both.add(0, type, Due.name(1));
            both.sign(0, type, 0, Due.name(1), 0);
        }
        both.anchor(0, both.seal(0, Due.name(1)));
        both.ask(0, Due.HOST);
        return both;
    }

    private static void one(Both both, int a) {
        both.answer(a);
        both.zone(a);
        both.figure(a);
        both.tick(a);
    }

    private static void two(Both both, int a, int b) {
        both.window(a, b);
        both.spoil(a, b);
        both.seal(a, b);
        both.anchor(a, b);
        both.above(a, b);
        both.ask(a, b);
        both.reason();
        both.drop(a, b);
    }
}
