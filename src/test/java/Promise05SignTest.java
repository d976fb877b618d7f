/** Promise 5: sign. */
public final class Promise05SignTest {
    private static final int OWNER = Due.name(4, 5);

    public static void main(String[] args) {
        numbers();
        wrong();
        labels();
        full();
        anybodySigns();
        theSetAsItWasSigned();
        Due.end();
    }

    private static void numbers() {
        TrustResolver x = new TrustResolver();
        x.add(OWNER, Due.HOST, 1);
        x.add(0, Due.KEY, 1);
        Due.is("first", x.sign(OWNER, Due.HOST, 0, 1, 2), 0);
        Due.is("the same", x.sign(OWNER, Due.HOST, 0, 1, 2), 1);
        Due.is("another", x.sign(0, Due.KEY, OWNER, 1000000, 0), 2);
        Due.is("signatures", x.figure(1), 3);
        x.drop(OWNER, Due.HOST);
        Due.is("signatures stay", x.figure(1), 3);
    }

    private static void wrong() {
        TrustResolver x = new TrustResolver();
        x.add(OWNER, Due.HOST, 1);
        for (int name : Due.NO_NAMES) {
            Due.is("owner " + name, x.sign(name, Due.HOST, 0, 1, 0), TrustResolver.NONE);
            Due.is("signer " + name, x.sign(OWNER, Due.HOST, name, 1, 0), TrustResolver.NONE);
        }
        for (int type : Due.NO_TYPES) {
            Due.is("type " + type, x.sign(OWNER, type, 0, 1, 0), TrustResolver.NONE);
        }
        for (int key : Due.NO_KEYS) {
            Due.is("key " + key, x.sign(OWNER, Due.HOST, 0, key, 0), TrustResolver.NONE);
        }
        Due.is("empty type", x.sign(OWNER, Due.CUT, 0, 1, 2), TrustResolver.NONE);
        Due.is("empty owner", x.sign(Due.name(4), Due.HOST, 0, 1, 1), TrustResolver.NONE);
        Due.is("signatures", x.figure(1), 0);
    }

    private static void labels() {
        for (int depth = 0; depth <= 4; depth++) {
            TrustResolver x = new TrustResolver();
            int owner = Due.name(new int[][] {{}, {9}, {9, 8}, {9, 8, 7}, {9, 8, 7, 6}}[depth]);
            x.add(owner, Due.HOST, 1);
            Due.is("labels -1", x.sign(owner, Due.HOST, 0, 1, -1), TrustResolver.NONE);
            Due.is("labels too many", x.sign(owner, Due.HOST, 0, 1, depth + 1), TrustResolver.NONE);
            Due.is("labels least", x.sign(owner, Due.HOST, 0, 1, Integer.MIN_VALUE), TrustResolver.NONE);
            Due.is("labels greatest", x.sign(owner, Due.HOST, 0, 1, Integer.MAX_VALUE), TrustResolver.NONE);
            for (int labels = 0; labels <= depth; labels++) {
                Due.is("labels " + labels + " of " + depth, x.sign(owner, Due.HOST, 0, 1, labels), labels);
            }
        }
    }

    private static void full() {
        TrustResolver x = new TrustResolver();
        x.add(OWNER, Due.HOST, 1);
        for (int k = 0; k < 32; k++) {
            Due.is("number " + k, x.sign(OWNER, Due.HOST, 0, 1, 2), k);
        }
        Due.is("33rd", x.sign(OWNER, Due.HOST, 0, 1, 2), TrustResolver.FULL);
        Due.is("wrong before full", x.sign(OWNER, Due.HOST, 0, 0, 2), TrustResolver.NONE);
        Due.is("empty before full", x.sign(OWNER, Due.CUT, 0, 1, 2), TrustResolver.NONE);
        Due.is("signatures", x.figure(1), 32);
        x.drop(OWNER, Due.HOST);
        x.add(OWNER, Due.CUT, 1);
        Due.is("none goes away", x.sign(OWNER, Due.CUT, 0, 1, 2), TrustResolver.FULL);
    }

    /** Signatures by strangers are taken, and are seen not to be good when it is asked. */
    private static void anybodySigns() {
        World w = World.rooted();
        w.signed(OWNER, Due.HOST, 1, 0, 12);
        w.sign(OWNER, Due.HOST, Due.name(4), World.ROOT_KEY);
        w.sign(OWNER, Due.HOST, Due.name(9), World.ROOT_KEY);
        w.sign(OWNER, Due.HOST, OWNER, World.ROOT_KEY);
        Due.asked("strangers", w.x, OWNER, Due.HOST, TrustResolver.FALSE, 11);
        w.sign(OWNER, Due.HOST, 0, World.ROOT_KEY);
        Due.asked("the zone", w.x, OWNER, Due.HOST, TrustResolver.TRUE, 8);
    }

    private static void theSetAsItWasSigned() {
        World w = World.rooted();
        w.x.add(OWNER, Due.HOST, 5);
        w.signed(OWNER, Due.HOST, -3, 0, World.ROOT_KEY);
        w.x.add(OWNER, Due.CUT, 4);
        w.x.drop(OWNER, Due.CUT);
        Due.asked("as signed", w.x, OWNER, Due.HOST, TrustResolver.TRUE, 8);
        w.x.add(OWNER, Due.HOST, 6);
        Due.asked("one more", w.x, OWNER, Due.HOST, TrustResolver.FALSE, 11);
        w.x.drop(OWNER, Due.HOST);
        w.x.add(OWNER, Due.HOST, -3);
        w.x.add(OWNER, Due.HOST, 4);
        Due.asked("another one", w.x, OWNER, Due.HOST, TrustResolver.FALSE, 11);
    }
}
