/** Promise 10, anchors and the part KEYS: reasons 1 to 4, and wrong questions. */
public final class Promise10KeysTest {
    private static final int ZONE = Due.name(5);
    private static final int HOST = Due.name(5, 7);

    public static void main(String[] args) {
        wrongQuestions();
        noAnchor();
        deepestAnchor();
        noKeys();
        noSealedKey();
        sealedForAnotherZone();
        keysNotPlain();
        onlySealedKeysSignKeys();
        allKeysCountThen();
        anySealWillDo();
        Due.end();
    }

    private static void wrongQuestions() {
        TrustResolver x = new TrustResolver();
        for (int name : Due.NO_NAMES) {
            Due.is("name " + name, x.ask(name, Due.HOST), TrustResolver.NONE);
        }
        for (int type : Due.NO_TYPES) {
            Due.is("type " + type, x.ask(HOST, type), TrustResolver.NONE);
        }
        Due.is("nothing was asked", x.reason(), 0);
    }

    private static void noAnchor() {
        TrustResolver x = new TrustResolver();
        Due.asked("none at all", x, ZONE, Due.HOST, TrustResolver.UNKNOWN, 1);
        x.anchor(HOST, 1);
        x.anchor(Due.name(6), 1);
        x.anchor(Due.name(5, 8), 1);
        Due.asked("only below and beside", x, ZONE, Due.HOST, TrustResolver.UNKNOWN, 1);
        Due.asked("root", x, 0, Due.HOST, TrustResolver.UNKNOWN, 1);
        Due.asked("it itself", x, HOST, Due.HOST, TrustResolver.FALSE, 2);
        Due.asked("below it", x, Due.name(5, 7, 1), Due.HOST, TrustResolver.FALSE, 2);
    }

    private static void deepestAnchor() {
        int[][] orders = {{0, ZONE, HOST}, {HOST, ZONE, 0}, {ZONE, HOST, 0}};
        for (int[] order : orders) {
            TrustResolver x = new TrustResolver();
            for (int zone : order) {
                x.anchor(zone, 1);
            }
            x.anchor(Due.name(27), 1);
            x.ask(Due.name(5, 7, 1), Due.HOST);
            Due.is("below all", x.zone(0), HOST);
            x.ask(HOST, Due.HOST);
            Due.is("itself", x.zone(0), HOST);
            x.ask(Due.name(5, 8), Due.HOST);
            Due.is("the middle one", x.zone(0), ZONE);
            x.ask(Due.name(6), Due.HOST);
            Due.is("the root", x.zone(0), 0);
        }
    }

    private static void noKeys() {
        World w = World.rooted();
        w.x.drop(0, Due.KEY);
        Due.asked("the anchor's", w.x, HOST, Due.HOST, TrustResolver.FALSE, 2);
        w.x.add(0, Due.KEY, World.ROOT_KEY);
        w.zoneBelow(0, World.ROOT_KEY, ZONE, 22);
        w.x.drop(ZONE, Due.KEY);
        Due.asked("a lower zone's", w.x, HOST, Due.HOST, TrustResolver.FALSE, 2);
        Due.is("which was gone into", w.x.zone(1), ZONE);
    }

    private static void noSealedKey() {
        World w = World.rooted();
        w.x.anchor(0, w.x.seal(0, 12));
        Due.asked("another key is sealed", w.x, 0, Due.KEY, TrustResolver.FALSE, 3);
        w.x.add(0, Due.KEY, 12);
        Due.asked("now there, not signed", w.x, 0, Due.KEY, TrustResolver.FALSE, 4);
        w.x.add(0, Due.NEXT, Due.name(1));
        w.x.anchor(0, w.x.seal(0, Due.name(1)));
        Due.asked("a number of another set", w.x, 0, Due.KEY, TrustResolver.FALSE, 3);
    }

    private static void sealedForAnotherZone() {
        World w = new World();
        w.holdKeys(ZONE, 22);
        w.x.anchor(ZONE, w.x.seal(0, 22));
        Due.asked("the root's seal", w.x, ZONE, Due.KEY, TrustResolver.FALSE, 3);
        w.x.anchor(ZONE, w.x.seal(ZONE, 22));
        Due.asked("its own", w.x, ZONE, Due.KEY, TrustResolver.TRUE, 8);
    }

    private static void keysNotPlain() {
        World w = new World();
        w.x.anchor(ZONE, w.x.seal(ZONE, 22));
        w.x.add(ZONE, Due.KEY, 22);
        Due.asked("unsigned", w.x, ZONE, Due.KEY, TrustResolver.FALSE, 4);
        w.sign(ZONE, Due.KEY, ZONE, 22, 0);
        Due.asked("as a star", w.x, ZONE, Due.KEY, TrustResolver.FALSE, 4);
        w.sign(ZONE, Due.KEY, 0, 22);
        Due.asked("signed from above", w.x, ZONE, Due.KEY, TrustResolver.FALSE, 4);
        w.sign(ZONE, Due.KEY, HOST, 22);
        Due.asked("signed from below", w.x, ZONE, Due.KEY, TrustResolver.FALSE, 4);
        int good = w.sign(ZONE, Due.KEY, ZONE, 22);
        Due.asked("good", w.x, ZONE, Due.KEY, TrustResolver.TRUE, 8);
        w.x.spoil(good, 1);
        Due.asked("spoiled", w.x, ZONE, Due.KEY, TrustResolver.FALSE, 4);
        w.x.spoil(good, -1);
        w.x.add(ZONE, Due.KEY, 23);
        Due.asked("one key more", w.x, ZONE, Due.KEY, TrustResolver.FALSE, 4);
    }

    private static void onlySealedKeysSignKeys() {
        World w = new World();
        w.x.add(0, Due.KEY, 12);
        w.holdKeys(0, 13, 11);
        w.x.anchor(0, w.x.seal(0, World.ROOT_KEY));
        Due.asked("signed by 13", w.x, 0, Due.KEY, TrustResolver.FALSE, 4);
        w.sign(0, Due.KEY, 0, 99);
        Due.asked("by no key of it", w.x, 0, Due.KEY, TrustResolver.FALSE, 4);
        w.sign(0, Due.KEY, 0, World.ROOT_KEY);
        Due.asked("by the sealed one", w.x, 0, Due.KEY, TrustResolver.TRUE, 8);
    }

    private static void allKeysCountThen() {
        World w = new World();
        w.holdKeys(0, World.ROOT_KEY, 12, 13);
        w.x.anchor(0, w.x.seal(0, World.ROOT_KEY));
        for (int key = 11; key <= 14; key++) {
            int host = Due.name(key);
            w.signed(host, Due.HOST, 1, 0, key);
            boolean counts = key <= 13;
            Due.asked("key " + key, w.x, host, Due.HOST,
                    counts ? TrustResolver.TRUE : TrustResolver.FALSE, counts ? 8 : 11);
        }
        Due.is("keys", w.x.figure(3), 3);
    }

    private static void anySealWillDo() {
        World w = World.rooted();
        w.x.add(ZONE, Due.CUT, 1);
        w.x.add(ZONE, Due.SEAL, 0);
        w.x.add(ZONE, Due.SEAL, Integer.MAX_VALUE);
        w.x.add(ZONE, Due.SEAL, w.x.seal(ZONE, 30));
        w.signed(ZONE, Due.SEAL, w.x.seal(ZONE, 22), 0, World.ROOT_KEY);
        w.holdKeys(ZONE, 22, 21);
        Due.asked("one of four seals", w.x, ZONE, Due.KEY, TrustResolver.TRUE, 8);
        w.x.drop(ZONE, Due.KEY);
        w.holdKeys(ZONE, 30);
        Due.asked("another of them", w.x, ZONE, Due.KEY, TrustResolver.TRUE, 8);
        w.x.anchor(ZONE, w.x.seal(ZONE, 22));
        Due.asked("the anchor's digest alone", w.x, ZONE, Due.KEY, TrustResolver.FALSE, 3);
    }
}
