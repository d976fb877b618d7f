/** Promise 2: add. */
public final class Promise02AddTest {
    private static final int OWNER = Due.name(2, 3);

    public static void main(String[] args) {
        sizes();
        dataOfTypes();
        names();
        wrongOwnersAndTypes();
        full();
        order();
        Due.end();
    }

    private static void sizes() {
        TrustResolver x = new TrustResolver();
        Due.is("first", x.add(OWNER, Due.HOST, 5), 1);
        Due.is("second", x.add(OWNER, Due.HOST, -5), 2);
        Due.is("again", x.add(OWNER, Due.HOST, 5), 2);
        Due.is("another type", x.add(OWNER, Due.CUT, 5), 1);
        Due.is("another owner", x.add(Due.name(2), Due.HOST, 5), 1);
        Due.is("third", x.add(OWNER, Due.HOST, 0), 3);
        Due.is("records", x.figure(0), 5);
    }

    private static void dataOfTypes() {
        TrustResolver x = new TrustResolver();
        for (int type = Due.HOST; type <= Due.CUT; type++) {
            Due.is("least int", x.add(OWNER, type, Integer.MIN_VALUE), 1);
            Due.is("greatest int", x.add(OWNER, type, Integer.MAX_VALUE), 2);
            Due.is("zero", x.add(OWNER, type, 0), 3);
        }
        Due.is("seal -1", x.add(OWNER, Due.SEAL, -1), TrustResolver.NONE);
        Due.is("seal least", x.add(OWNER, Due.SEAL, Integer.MIN_VALUE), TrustResolver.NONE);
        Due.is("seal 0", x.add(OWNER, Due.SEAL, 0), 1);
        Due.is("seal greatest", x.add(OWNER, Due.SEAL, Integer.MAX_VALUE), 2);
        for (int key : Due.NO_KEYS) {
            Due.is("key " + key, x.add(OWNER, Due.KEY, key), TrustResolver.NONE);
        }
        Due.is("key 1", x.add(OWNER, Due.KEY, 1), 1);
        Due.is("key 1000000", x.add(OWNER, Due.KEY, 1000000), 2);
        dataOfNext(x);
        Due.is("records", x.figure(0), 13);
    }

    private static void dataOfNext(TrustResolver x) {
        Due.is("next root, no types", x.add(OWNER, Due.NEXT, 0), 1);
        Due.is("next all", x.add(OWNER, Due.NEXT, Due.next(Due.name(27, 27, 27, 27), 1, 2, 3, 4, 5)), 2);
        Due.is("next root, all types", x.add(OWNER, Due.NEXT, (1 << 25) - (1 << 20)), 3);
        for (int wrong : Due.NO_NAMES) {
            if (wrong >= 0 && wrong < 1 << 20) {
                Due.is("next " + wrong, x.add(OWNER, Due.NEXT, wrong), TrustResolver.NONE);
                Due.is("next with types " + wrong, x.add(OWNER, Due.NEXT, 3 << 20 | wrong), TrustResolver.NONE);
            }
        }
        int[] outside = {-1, 1 << 25, 1 << 26, 1 << 30, Integer.MIN_VALUE, Integer.MIN_VALUE + (1 << 20)};
        for (int data : outside) {
            Due.is("next " + data, x.add(OWNER, Due.NEXT, data), TrustResolver.NONE);
        }
    }

    private static void names() {
        TrustResolver x = new TrustResolver();
        int[] owners = {0, Due.name(1), Due.name(27), Due.name(1, 1), Due.name(27, 27, 27),
            Due.name(1, 1, 1, 1), Due.name(27, 27, 27, 27), Due.name(5, 1, 27, 2)};
        for (int owner : owners) {
            Due.is("owner " + owner, x.add(owner, Due.HOST, 1), 1);
        }
        Due.is("records", x.figure(0), owners.length);
    }

    private static void wrongOwnersAndTypes() {
        TrustResolver x = new TrustResolver();
        for (int owner : Due.NO_NAMES) {
            Due.is("owner " + owner, x.add(owner, Due.HOST, 1), TrustResolver.NONE);
        }
        for (int type : Due.NO_TYPES) {
            Due.is("type " + type, x.add(OWNER, type, 1), TrustResolver.NONE);
        }
        Due.is("records", x.figure(0), 0);
    }

    private static void full() {
        TrustResolver x = new TrustResolver();
        for (int k = 0; k < 40; k++) {
            Due.is("in one set", x.add(OWNER, Due.HOST, k * 7 % 40), k + 1);
        }
        for (int k = 0; k < 8; k++) {
            Due.is("in other sets", x.add(Due.name(k + 3), Due.CUT, 1), 1);
        }
        Due.is("48", x.figure(0), 48);
        Due.is("49th in its set", x.add(OWNER, Due.HOST, 40), TrustResolver.FULL);
        Due.is("49th in a new set", x.add(0, Due.KEY, 1), TrustResolver.FULL);
        Due.is("wrong before full", x.add(0, Due.KEY, 0), TrustResolver.NONE);
        Due.is("there already", x.add(OWNER, Due.HOST, 39), 40);
        Due.is("48 still", x.figure(0), 48);
        Due.is("drop one", x.drop(Due.name(3), Due.CUT), 1);
        Due.is("room again", x.add(OWNER, Due.HOST, 40), 41);
        Due.is("full again", x.add(OWNER, Due.HOST, 41), TrustResolver.FULL);
    }

    private static void order() {
        World w = World.rooted();
        int[] mixed = {3, -1, Integer.MAX_VALUE, 0, Integer.MIN_VALUE, 2};
        int[] rising = {Integer.MIN_VALUE, -1, 0, 2, 3, Integer.MAX_VALUE};
        for (int data : mixed) {
            w.x.add(OWNER, Due.HOST, data);
        }
        w.sign(OWNER, Due.HOST, 0, World.ROOT_KEY);
        Due.asked("mixed", w.x, OWNER, Due.HOST, TrustResolver.TRUE, 8);
        for (int k = 0; k < rising.length; k++) {
            Due.is("answer " + k, w.x.answer(k), rising[k]);
        }
    }
}
