/** The edges of promise 2. */
public final class Edge02AddTest {
    private static final int OWNER = Due.name(8);

    public static void main(String[] args) {
        whenItWasThere();
        whenItWasThereAndFull();
        none();
        fullInOneSet();
        fullInManySets();
        roomAgain();
        Due.end();
    }

    /** 'as many as before when it was there'; it is another one in another set. */
    private static void whenItWasThere() {
        TrustResolver x = new TrustResolver();
        int[] datas = {1, 0, 1 << 20};
        for (int type = Due.HOST; type <= Due.NEXT; type++) {
            int data = type == Due.NEXT ? 1 << 20 : 1;
            Due.is("new", x.add(OWNER, type, data), 1);
            Due.is("there", x.add(OWNER, type, data), 1);
            Due.is("records", x.figure(0), type);
        }
        for (int data : datas) {
            x.add(OWNER, Due.HOST, data);
        }
        for (int data : datas) {
            Due.is("one of three", x.add(OWNER, Due.HOST, data), 3);
        }
        Due.is("of another owner", x.add(0, Due.HOST, 1), 1);
        x.drop(OWNER, Due.HOST);
        Due.is("dropped since", x.add(OWNER, Due.HOST, 1), 1);
    }

    private static void whenItWasThereAndFull() {
        Twins.changesNothing("the least of a set", 3, Past.FULL, x -> x.add(Past.ZONE, Due.KEY, 22));
        Twins.changesNothing("the greatest of a set", 3, Past.FULL, x -> x.add(Past.ZONE, Due.KEY, 24));
        Twins.changesNothing("the only one of a set", 1, Past.FULL, x -> x.add(0, Due.KEY, Past.TOP));
        Twins.changesNothing("one beside them", TrustResolver.FULL, Past.FULL, x -> x.add(Past.ZONE, Due.KEY, 25));
    }

    /** 'NONE when owner is no name, type not 1 .. 5, or data not as said'. */
    private static void none() {
        Twins.changesNothing("no name", TrustResolver.NONE, x -> x.add(1, Due.HOST, 1));
        for (int type : Due.NO_TYPES) {
            Twins.changesNothing("type " + type, TrustResolver.NONE, x -> x.add(Past.HOST, type, 1));
        }
        Twins.changesNothing("a seal below 0", TrustResolver.NONE, x -> x.add(Past.ZONE, Due.SEAL, -1));
        for (int key : Due.NO_KEYS) {
            Twins.changesNothing("key " + key, TrustResolver.NONE, x -> x.add(Past.ZONE, Due.KEY, key));
        }
        Twins.changesNothing("a NEXT of no name", TrustResolver.NONE, x -> x.add(0, Due.NEXT, 1));
        Twins.changesNothing("a NEXT of no types", TrustResolver.NONE, x -> x.add(0, Due.NEXT, 1 << 25));
        TrustResolver x = new TrustResolver();
        Due.is("type 1", x.add(0, 1, 1), 1);
        Due.is("type 5", x.add(0, 5, 0), 1);
    }

    /** 'FULL when there would be a 49th', which the 48th is not. */
    private static void fullInOneSet() {
        TrustResolver x = new TrustResolver();
        for (int k = 1; k <= 48; k++) {
            Due.is("record " + k, x.add(OWNER, Due.CUT, -k), k);
        }
        for (int k = 0; k < 3; k++) {
            Due.is("49th", x.add(OWNER, Due.CUT, k), TrustResolver.FULL);
            Due.is("49th, least", x.add(OWNER, Due.CUT, -50 - k), TrustResolver.FULL);
        }
        Due.is("48", x.figure(0), 48);
        for (int k = 1; k <= 48; k++) {
            Due.is("there", x.add(OWNER, Due.CUT, -k), 48);
        }
        Due.is("all of them", x.drop(OWNER, Due.CUT), 48);
    }

    private static void fullInManySets() {
        TrustResolver x = new TrustResolver();
        for (int k = 0; k < 48; k++) {
            Due.is("record " + k, x.add(Due.name(1 + k % 24, 2), 1 + k / 24, 9), 1);
        }
        Due.is("49th, in a new set", x.add(0, Due.HOST, 9), TrustResolver.FULL);
        Due.is("49th, in a set behind all", x.add(Past.LAST, Due.NEXT, 0), TrustResolver.FULL);
        Due.is("49th, in a set that there is", x.add(Due.name(1, 2), Due.HOST, 8), TrustResolver.FULL);
        Due.is("sets as they were", x.drop(Due.name(1, 2), Due.HOST), 1);
        Twins.changesNothing("49th, new set", TrustResolver.FULL, Past.FULL, y -> y.add(Due.name(3), Due.CUT, 1));
        Twins.changesNothing("49th, in a set of keys", TrustResolver.FULL, Past.FULL, y -> y.add(0, Due.KEY, 1));
        Twins.changesNothing("49th, in the set that was asked for", TrustResolver.FULL, Past.FULL,
                y -> y.add(Past.HOST, Due.HOST, 0));
    }

    /** Full, then a set is dropped: as many as it had can come, and no more. */
    private static void roomAgain() {
        World w = Past.full();
        int gone = w.x.drop(Past.ZONE, Due.KEY);
        Due.is("gone", gone, 3);
        for (int k = 1; k <= gone; k++) {
            Due.is("room for " + k, w.x.add(OWNER, Due.KEY, k), k);
        }
        Due.is("no more", w.x.add(OWNER, Due.KEY, 9), TrustResolver.FULL);
        Due.is("none gone", w.x.drop(Past.ZONE, Due.KEY), 0);
        Due.is("no more still", w.x.add(OWNER, Due.KEY, 9), TrustResolver.FULL);
    }
}
