/** The edges of promises 7, 8 and 9: seal, anchor and tick. */
public final class Edge07To09Test {
    private static final int[] FOUR = {0, Past.ZONE, Past.HOST, Past.LAST};

    public static void main(String[] args) {
        sealNone();
        sealLeastAndGreatest();
        anchorInPlaceWhenFour();
        anchorNone();
        anchorFull();
        anchorDigests();
        tickNone();
        tickLeastAndGreatest();
        Due.end();
    }

    /** Promise 7, 'NONE when zone is no name, or key not 1 .. 1000000'. */
    private static void sealNone() {
        Twins.changesNothing("seal for no name", TrustResolver.NONE, x -> x.seal(1, 1));
        for (int key : Due.NO_KEYS) {
            Twins.changesNothing("seal of " + key, TrustResolver.NONE, x -> x.seal(0, key));
        }
        Twins.changesNothing("seal for no name of no key", TrustResolver.NONE, x -> x.seal(-1, 0));
    }

    private static void sealLeastAndGreatest() {
        int[] keys = {1, 1000000};
        for (int zone : FOUR) {
            for (int key : keys) {
                Twins.changesNothing("seal of " + key, Due.digest(77, zone, key), x -> x.seal(zone, key));
            }
        }
    }

    private static TrustResolver four() {
        TrustResolver x = new TrustResolver();
        for (int k = 0; k < FOUR.length; k++) {
            x.add(FOUR[k], Due.KEY, 30 + k);
            x.sign(FOUR[k], Due.KEY, FOUR[k], 30 + k, World.depth(FOUR[k]));
            Due.is("anchor " + k, x.anchor(FOUR[k], 0), k + 1);
        }
        return x;
    }

    /** Promise 8, 'in place of the one that it had (also when there are 4)'. */
    private static void anchorInPlaceWhenFour() {
        for (int k = 0; k < FOUR.length; k++) {
            TrustResolver x = four();
            Due.says("another digest", x, FOUR[k], Due.KEY, 3);
            Due.is("in its place", x.anchor(FOUR[k], x.seal(FOUR[k], 30 + k)), 4);
            for (int other = 0; other < FOUR.length; other++) {
                Due.says("anchor " + other, x, FOUR[other], Due.KEY, other == k ? 8 : 3);
            }
            Due.is("in its place again", x.anchor(FOUR[k], 0), 4);
            Due.says("the former one is gone", x, FOUR[k], Due.KEY, 3);
        }
        TrustResolver one = new TrustResolver();
        for (int digest = 0; digest < 6; digest++) {
            Due.is("one and the same", one.anchor(Past.ZONE, digest), 1);
        }
    }

    /** Promise 8, 'NONE when zone is no name, or digest below 0'. */
    private static void anchorNone() {
        Twins.changesNothing("no name", TrustResolver.NONE, x -> x.anchor(1, 0));
        int[] below = {-1, -2, Integer.MIN_VALUE};
        for (int digest : below) {
            Twins.changesNothing("a new one, digest " + digest, TrustResolver.NONE, x -> x.anchor(Due.name(26), digest));
            Twins.changesNothing("one that is there, digest " + digest, TrustResolver.NONE, x -> x.anchor(0, digest));
        }
    }

    /** Promise 8, 'FULL when there would be a 5th'. */
    private static void anchorFull() {
        Twins.changesNothing("a 5th", TrustResolver.FULL, Past.FULL, x -> x.anchor(Due.name(26), 0));
        Twins.changesNothing("a 5th below one", TrustResolver.FULL, Past.FULL, x -> x.anchor(Past.HOST, 0));
        Twins.changesNothing("no name, when there are 4", TrustResolver.NONE, Past.FULL, x -> x.anchor(1, 0));
        TrustResolver x = four();
        for (int k = 0; k < 3; k++) {
            Due.is("a 5th", x.anchor(Due.name(5, 8), 1), TrustResolver.FULL);
        }
        x.ask(Due.name(5, 8), Due.HOST);
        Due.is("which is no anchor", x.zone(0), Past.ZONE);
    }

    /** A digest from 0 on: both ends are taken. */
    private static void anchorDigests() {
        TrustResolver x = new TrustResolver();
        Due.is("0", x.anchor(0, 0), 1);
        Due.is("the greatest", x.anchor(0, Integer.MAX_VALUE), 1);
        Due.is("the greatest, new", x.anchor(Past.ZONE, Integer.MAX_VALUE), 2);
    }

    /** Promise 9, 'NONE when n is not 0 .. 100000'. */
    private static void tickNone() {
        int[] wrong = {-1, -2, 100001, 100002, Integer.MIN_VALUE, Integer.MAX_VALUE};
        for (int n : wrong) {
            Twins.changesNothing("tick " + n, TrustResolver.NONE, x -> x.tick(n));
        }
    }

    private static void tickLeastAndGreatest() {
        TrustResolver x = new TrustResolver();
        int time = 0;
        int[] ticks = {0, 1, 99999, 100000, 0, 100000};
        for (int n : ticks) {
            time += n;
            Due.is("tick " + n, x.tick(n), time);
            Due.is("refused", x.tick(100001), TrustResolver.NONE);
            Due.is("time", x.figure(2), time);
        }
        Twins.changesNothing("tick 0 in time 4", 4, Past.DROPPED, y -> y.tick(0));
        Twins.changesNothing("tick 0 in time 0", 0, Past.FULL, y -> y.tick(0));
    }
}
