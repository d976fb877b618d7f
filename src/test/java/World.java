/** A resolver with zones that hold, for tests that then break one thing or ask one thing. */
final class World {
    static final int ROOT_KEY = 11;

    final TrustResolver x = new TrustResolver();

    /** The root as anchor, with one key. */
    static World rooted() {
        World w = new World();
        w.holdKeys(0, ROOT_KEY);
        w.x.anchor(0, w.x.seal(0, ROOT_KEY));
        return w;
    }

    /** The keys of a zone, signed by the first of them. */
    void holdKeys(int zone, int... keys) {
        for (int key : keys) {
            Due.is("a key of the world", x.add(zone, Due.KEY, key) > 0, true);
        }
        sign(zone, Due.KEY, zone, keys[0]);
    }

    /** A zone below another one, sealed there. */
    void zoneBelow(int upper, int upperKey, int zone, int... keys) {
        x.add(zone, Due.CUT, 1);
        signed(zone, Due.SEAL, x.seal(zone, keys[0]), upper, upperKey);
        holdKeys(zone, keys);
    }

    /** A record, and a signature of its set as it is then, with all labels of the owner. */
    int signed(int owner, int type, int data, int signer, int key) {
        Due.is("a record of the world", x.add(owner, type, data) > 0, true);
        return sign(owner, type, signer, key);
    }

    int sign(int owner, int type, int signer, int key) {
        return sign(owner, type, signer, key, depth(owner));
    }

    int sign(int owner, int type, int signer, int key, int labels) {
        int number = x.sign(owner, type, signer, key, labels);
        Due.is("a signature of the world", number >= 0, true);
        return number;
    }

    static int depth(int name) {
        int depth = 0;
        for (int shift = 15; shift >= 0; shift -= 5) {
            depth += (name >> shift & 31) != 0 ? 1 : 0;
        }
        return depth;
    }
}
