/** Pasts that an object can have; a test of a refused call is made after each of them. */
enum Past {
    NEW, ASKED, FROM_STAR, UNKNOWN, DROPPED, FULL;

    static final int TOP = World.ROOT_KEY;
    static final int ZONE = Due.name(5);
    static final int ZONE_KEY = 22;
    static final int HOST = Due.name(5, 7);
    static final int STAR_HOST = Due.name(7, 7);
    static final int LAST = Due.name(27, 27, 27, 27);

    /** The same object each time, but for its being another one. */
    TrustResolver made() {
        switch (this) {
            case NEW:
                return new TrustResolver();
            case UNKNOWN:
                return unknown();
            case FULL:
                return full().x;
            default:
                World w = zones();
                w.x.ask(this == FROM_STAR ? STAR_HOST : HOST, Due.HOST);
                if (this == DROPPED) {
                    dropMuch(w.x);
                }
                return w.x;
        }
    }

    /** The root and a zone below it, a host in that one, and another host from the star of the root. */
    static World zones() {
        World w = World.rooted();
        w.zoneBelow(0, TOP, ZONE, ZONE_KEY, 23, 24);
        w.x.add(HOST, Due.HOST, 40);
        w.signed(HOST, Due.HOST, -40, ZONE, 24);
        w.signed(0, Due.NEXT, Due.next(ZONE), 0, TOP);
        w.signed(Due.name(6), Due.NEXT, Due.next(0), 0, TOP);
        w.x.add(STAR_HOST, Due.HOST, 66);
        w.sign(STAR_HOST, Due.HOST, 0, TOP, 0);
        w.x.window(3, 20);
        return w;
    }

    private static TrustResolver unknown() {
        TrustResolver x = new TrustResolver();
        x.anchor(ZONE, x.seal(ZONE, ZONE_KEY));
        x.ask(0, Due.HOST);
        return x;
    }

    private static void dropMuch(TrustResolver x) {
        x.drop(HOST, Due.HOST);
        x.drop(ZONE, Due.KEY);
        x.drop(0, Due.CUT);
        x.tick(4);
    }

    /** 48 records, 32 signatures and 4 anchors. */
    static World full() {
        World w = zones();
        for (int k = w.x.figure(0); k < 48; k++) {
            w.x.add(LAST, 1 + k % 2, k);
        }
        for (int k = w.x.figure(1); k < 32; k++) {
            w.sign(LAST, 1 + k % 2, 0, TOP);
        }
        for (int k = 2; k <= 4; k++) {
            w.x.anchor(Due.name(20, k), k);
        }
        w.x.ask(HOST, Due.HOST);
        return w;
    }
}
