/** The edges of 'Terms', signatures: each condition of GOOD and of PLAIN, on both of its sides. */
public final class EdgeGoodTest {
    private static final int TOP = Past.TOP;
    private static final int HOST = Due.name(5, 7, 3);

    public static void main(String[] args) {
        signerIsTheZone();
        zoneIsTheOwnerOrAboveIt();
        keyIsOneOfTheKeys();
        notBeforeItsFirst();
        notBehindItsLast();
        atOneTimeAlone();
        timesFarAway();
        setIsNotEmpty();
        markIsWhatItWouldBeNow();
        labelsUpToTheOwnersDepth();
        nameThatIsSigned();
        Due.end();
    }

    private static void host(String what, World w, boolean good) {
        Due.asked(what, w.x, HOST, Due.HOST, good ? TrustResolver.TRUE : TrustResolver.FALSE, good ? 8 : 11);
    }

    private static void signerIsTheZone() {
        int[] signers = {Due.name(5), Due.name(5, 7), HOST, Due.name(5, 7, 3, 1), Due.name(4), Due.name(6)};
        World w = World.rooted();
        w.x.add(HOST, Due.HOST, 1);
        for (int signer : signers) {
            w.sign(HOST, Due.HOST, signer, TOP);
            host("signer " + signer, w, false);
        }
        w.sign(HOST, Due.HOST, 0, TOP);
        host("the root", w, true);
    }

    /** Whether 5.7 is covered hangs on a NEXT that the zone 5 signs, for owners in it and outside. */
    private static void zoneIsTheOwnerOrAboveIt() {
        int zone = Due.name(5);
        int[] owners = {0, Due.name(4), Due.name(4, 27), zone, Due.name(5, 1), Due.name(5, 6, 27, 27)};
        for (int owner : owners) {
            World w = new World();
            w.holdKeys(zone, 22);
            w.x.anchor(zone, w.x.seal(zone, 22));
            w.x.add(Due.name(5, 7), Due.HOST, 1);
            w.sign(Due.name(5, 7), Due.HOST, zone, 22, 1);
            w.signed(owner, Due.NEXT, Due.next(Due.name(5, 8)), zone, 22);
            boolean inside = owner >= zone;
            Due.asked("a NEXT of " + owner, w.x, Due.name(5, 7), Due.HOST,
                    inside ? TrustResolver.TRUE : TrustResolver.FALSE, inside ? 9 : 10);
        }
    }

    private static void keyIsOneOfTheKeys() {
        World w = new World();
        w.x.add(0, Due.KEY, 1);
        w.x.add(0, Due.KEY, 1000000);
        w.holdKeys(0, TOP);
        w.x.anchor(0, w.x.seal(0, TOP));
        int[] keys = {2, 10, 12, 999999};
        w.x.add(HOST, Due.HOST, 1);
        for (int key : keys) {
            w.sign(HOST, Due.HOST, 0, key);
            host("key " + key, w, false);
        }
        int number = w.sign(HOST, Due.HOST, 0, 1000000);
        host("the greatest key", w, true);
        w.x.spoil(number, 1);
        host("spoiled", w, false);
        w.sign(HOST, Due.HOST, 0, 1);
        host("the least key", w, true);
    }

    /** 'the time is not before its first'. */
    private static void notBeforeItsFirst() {
        forTimes(7, 900, 0, 6, 6, 7, 8);
        forTimes(1, 900, 0, 1);
        forTimes(0, 900, 0, 1);
    }

    /** 'and not behind its last one'. */
    private static void notBehindItsLast() {
        forTimes(0, 7, 0, 6, 7, 8, 9);
        forTimes(0, 1, 0, 1, 2);
        forTimes(0, 0, 0, 1);
    }

    private static void atOneTimeAlone() {
        World w = forTimes(4, 4, 3, 4, 5);
        w.sign(HOST, Due.HOST, 0, TOP);
        host("made when its time had gone", w, false);
        w.x.window(5, 5);
        w.sign(HOST, Due.HOST, 0, TOP);
        host("made for the time that it is", w, true);
    }

    /** A signature from first to last, which is asked about at rising times. */
    private static World forTimes(int first, int last, int... times) {
        World w = World.rooted();
        w.x.window(first, last);
        w.signed(HOST, Due.HOST, 1, 0, TOP);
        for (int time : times) {
            w.x.tick(time - w.x.figure(2));
            host("time " + time + " of " + first + " to " + last, w, time >= first && time <= last);
        }
        return w;
    }

    private static void timesFarAway() {
        World w = new World();
        w.x.window(0, Integer.MAX_VALUE);
        w.holdKeys(0, TOP);
        w.x.anchor(0, w.x.seal(0, TOP));
        w.x.window(Integer.MAX_VALUE, Integer.MAX_VALUE);
        w.signed(HOST, Due.HOST, 1, 0, TOP);
        for (int k = 0; k < 400; k++) {
            w.x.tick(100000);
        }
        host("far from its first", w, false);
        w.x.window(40000000, Integer.MAX_VALUE);
        w.sign(HOST, Due.HOST, 0, TOP);
        host("just its first", w, true);
    }

    /** 'its set is not empty', even when the mark is the one that an empty set would have. */
    private static void setIsNotEmpty() {
        World w = World.rooted();
        int owner = Due.name(6);
        int number = w.signed(owner, Due.NEXT, 0, 0, TOP);
        Due.asked("with one record", w.x, owner, Due.HOST, TrustResolver.TRUE, 12);
        w.x.drop(owner, Due.NEXT);
        int full = Due.digest(TOP, 0, Due.NEXT, 1, 0, 1000, owner, 0);
        int empty = Due.digest(TOP, 0, Due.NEXT, 1, 0, 1000, owner);
        w.x.spoil(number, empty - full);
        Due.asked("empty", w.x, owner, Due.HOST, TrustResolver.FALSE, 14);
        w.x.spoil(number, full - empty);
        w.x.add(owner, Due.NEXT, 0);
        Due.asked("with its record again", w.x, owner, Due.HOST, TrustResolver.TRUE, 12);
    }

    /** 'its mark is what it would be now': for the set as it is, not as it was. */
    private static void markIsWhatItWouldBeNow() {
        World w = World.rooted();
        w.signed(HOST, Due.HOST, 1, 0, TOP);
        host("as signed", w, true);
        w.x.add(HOST, Due.HOST, 1);
        host("told again", w, true);
        w.x.add(HOST, Due.HOST, 2);
        host("one more", w, false);
        w.x.drop(HOST, Due.HOST);
        w.x.add(HOST, Due.HOST, 2);
        host("another one", w, false);
        w.x.drop(HOST, Due.HOST);
        w.x.add(HOST, Due.HOST, 1);
        host("the same again", w, true);
        w.x.window(0, 5);
        host("another window is no matter of it", w, true);
    }

    /** 'a number of labels up to the owner's depth'; plain with all of them alone. */
    private static void labelsUpToTheOwnersDepth() {
        int[] owners = {0, Due.name(9), Due.name(9, 9), Due.name(9, 9, 9), Due.name(9, 9, 9, 9)};
        for (int depth = 0; depth <= 4; depth++) {
            int owner = owners[depth];
            for (int labels = 0; labels <= depth; labels++) {
                World w = World.rooted();
                w.x.add(owner, Due.HOST, 1);
                w.sign(owner, Due.HOST, 0, TOP, labels);
                boolean plain = labels == depth;
                Due.asked(labels + " labels of " + depth, w.x, owner, Due.HOST,
                        plain ? TrustResolver.TRUE : TrustResolver.FALSE, plain ? 8 : 10);
            }
            World w = World.rooted();
            w.x.add(owner, Due.HOST, 1);
            int[] wrong = {-1, depth + 1, Integer.MIN_VALUE, Integer.MAX_VALUE};
            for (int labels : wrong) {
                Due.is(labels + " labels of " + depth, w.x.sign(owner, Due.HOST, 0, TOP, labels), TrustResolver.NONE);
            }
            Due.asked("none was made", w.x, owner, Due.HOST, TrustResolver.FALSE, 11);
        }
    }

    /** '(the owner; if labels is less than its depth: the star of the name of its first so many labels)'. */
    private static void nameThatIsSigned() {
        int owner = Due.name(9, 8, 7, 6);
        int[] names = {Due.name(1), Due.name(9, 1), Due.name(9, 8, 1), Due.name(9, 8, 7, 1), owner};
        for (int labels = 0; labels <= 4; labels++) {
            World w = World.rooted();
            w.x.add(owner, Due.HOST, 1);
            int number = w.sign(owner, Due.HOST, 0, TOP, labels);
            w.x.add(owner, Due.HOST, 2);
            Due.asked("one more", w.x, owner, Due.HOST, TrustResolver.FALSE, 11);
            w.x.spoil(number, Due.digest(TOP, 0, Due.HOST, labels, 0, 1000, names[labels], 1, 2)
                    - Due.digest(TOP, 0, Due.HOST, labels, 0, 1000, names[labels], 1));
            boolean plain = labels == 4;
            Due.asked("with its mark, " + labels, w.x, owner, Due.HOST,
                    plain ? TrustResolver.TRUE : TrustResolver.FALSE, plain ? 8 : 10);
        }
    }
}
