/** The edges of promise 5. */
public final class Edge05SignTest {
    private static final int TOP = Past.TOP;

    public static void main(String[] args) {
        noName();
        noType();
        noKey();
        noLabels();
        emptySet();
        full();
        refusedWhenFull();
        numbersFromZero();
        Due.end();
    }

    /** 'NONE when owner or signer is no name'; any name may sign. */
    private static void noName() {
        Twins.changesNothing("owner", TrustResolver.NONE, x -> x.sign(1, Due.KEY, 0, TOP, 0));
        Twins.changesNothing("signer", TrustResolver.NONE, x -> x.sign(0, Due.KEY, 1, TOP, 0));
        Twins.changesNothing("both", TrustResolver.NONE, x -> x.sign(-1, Due.KEY, 1 << 20, TOP, 0));
        int[] signers = {0, Due.name(1), Due.name(27), Past.HOST, Past.LAST};
        TrustResolver x = new TrustResolver();
        x.add(Past.HOST, Due.HOST, 1);
        for (int k = 0; k < signers.length; k++) {
            Due.is("signer " + signers[k], x.sign(Past.HOST, Due.HOST, signers[k], 1, 2), k);
        }
    }

    /** 'type not 1 .. 5'. */
    private static void noType() {
        for (int type : Due.NO_TYPES) {
            Twins.changesNothing("type " + type, TrustResolver.NONE, x -> x.sign(0, type, 0, TOP, 0));
        }
        TrustResolver x = new TrustResolver();
        for (int type = Due.HOST; type <= Due.NEXT; type++) {
            x.add(0, type, Due.name(1));
            Due.is("type " + type, x.sign(0, type, 0, TOP, 0), type - 1);
        }
    }

    /** 'key not 1 .. 1000000'; whether it is a key of a zone is no matter. */
    private static void noKey() {
        for (int key : Due.NO_KEYS) {
            Twins.changesNothing("key " + key, TrustResolver.NONE, x -> x.sign(0, Due.KEY, 0, key, 0));
        }
        int[] keys = {1, 2, 999999, 1000000};
        World w = World.rooted();
        for (int k = 0; k < keys.length; k++) {
            Due.is("key " + keys[k], w.x.sign(0, Due.KEY, 0, keys[k], 0), k + 1);
        }
    }

    /** 'labels not 0 .. the owner's depth'. */
    private static void noLabels() {
        int[] wrong = {-1, Integer.MIN_VALUE, Integer.MAX_VALUE};
        for (int labels : wrong) {
            Twins.changesNothing(labels + " labels", TrustResolver.NONE, x -> x.sign(Past.HOST, Due.HOST, Past.ZONE, 24, labels));
        }
        Twins.changesNothing("1 of depth 0", TrustResolver.NONE, x -> x.sign(0, Due.KEY, 0, TOP, 1));
        Twins.changesNothing("2 of depth 1", TrustResolver.NONE, x -> x.sign(Past.ZONE, Due.KEY, Past.ZONE, 22, 2));
        Twins.changesNothing("3 of depth 2", TrustResolver.NONE, x -> x.sign(Past.HOST, Due.HOST, Past.ZONE, 24, 3));
        Twins.changesNothing("5 of depth 4", TrustResolver.NONE, x -> x.sign(Past.LAST, Due.HOST, 0, TOP, 5));
        World w = Past.zones();
        int next = w.x.figure(1);
        Due.is("0 of depth 0", w.x.sign(0, Due.KEY, 0, TOP, 0), next);
        Due.is("1 of depth 1", w.x.sign(Past.ZONE, Due.KEY, Past.ZONE, 22, 1), next + 1);
        Due.is("2 of depth 2", w.x.sign(Past.HOST, Due.HOST, Past.ZONE, 24, 2), next + 2);
        Due.is("0 of depth 2", w.x.sign(Past.HOST, Due.HOST, Past.ZONE, 24, 0), next + 3);
    }

    /** 'or the set is empty': never told, of another type, or dropped since. */
    private static void emptySet() {
        Twins.changesNothing("never told", TrustResolver.NONE, x -> x.sign(Due.name(26), Due.HOST, 0, TOP, 1));
        Twins.changesNothing("another type", TrustResolver.NONE, x -> x.sign(Past.HOST, Due.KEY, Past.ZONE, 24, 2));
        Twins.changesNothing("dropped", TrustResolver.NONE, Past.DROPPED, x -> x.sign(Past.HOST, Due.HOST, Past.ZONE, 24, 2));
        TrustResolver x = Past.DROPPED.made();
        int next = x.figure(1);
        x.add(Past.HOST, Due.HOST, 0);
        Due.is("one record", x.sign(Past.HOST, Due.HOST, Past.ZONE, 24, 2), next);
    }

    /** 'FULL when there are 32': the 32nd is made, the 33rd is not. */
    private static void full() {
        TrustResolver x = new TrustResolver();
        x.add(0, Due.KEY, TOP);
        for (int k = 0; k < 32; k++) {
            Due.is("signatures", x.figure(1), k);
            Due.is("number " + k, x.sign(0, Due.KEY, 0, k == 31 ? TOP : 500, 0), k);
        }
        x.anchor(0, x.seal(0, TOP));
        Due.says("the 32nd holds", x, 0, Due.KEY, 8);
        for (int k = 0; k < 3; k++) {
            Due.is("33rd", x.sign(0, Due.KEY, 0, TOP, 0), TrustResolver.FULL);
            Due.is("signatures", x.figure(1), 32);
            Due.says("the 32nd still holds", x, 0, Due.KEY, 8);
        }
        x.spoil(31, 1);
        Due.says("the 32nd is spoiled, the 33rd is not there", x, 0, Due.KEY, 4);
        Due.is("a spoiled one takes its place", x.sign(0, Due.KEY, 0, TOP, 0), TrustResolver.FULL);
    }

    private static void refusedWhenFull() {
        Twins.changesNothing("of keys", TrustResolver.FULL, Past.FULL, x -> x.sign(0, Due.KEY, 0, TOP, 0));
        Twins.changesNothing("of a host", TrustResolver.FULL, Past.FULL, x -> x.sign(Past.HOST, Due.HOST, Past.ZONE, 23, 2));
        Twins.changesNothing("as a star's", TrustResolver.FULL, Past.FULL, x -> x.sign(Past.HOST, Due.HOST, Past.ZONE, 23, 0));
        Twins.changesNothing("of an empty set", TrustResolver.NONE, Past.FULL, x -> x.sign(Due.name(26), Due.HOST, 0, TOP, 1));
    }

    /** 'Its number, from 0': refused ones take no number. */
    private static void numbersFromZero() {
        TrustResolver x = new TrustResolver();
        x.add(0, Due.KEY, TOP);
        for (int k = 0; k < 4; k++) {
            Due.is("refused", x.sign(0, Due.KEY, 0, 0, 0), TrustResolver.NONE);
            Due.is("number " + k, x.sign(0, Due.KEY, 0, TOP, 0), k);
        }
    }
}
