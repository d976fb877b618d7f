/** The edges of promise 1. */
public final class Edge01NewTest {
    public static void main(String[] args) {
        nothingWasAsked();
        timesOfSignatures();
        noPlaceIsTaken();
        Due.end();
    }

    /** 'nothing was asked', also when all else has been done, and until something is. */
    private static void nothingWasAsked() {
        TrustResolver fresh = new TrustResolver();
        notAsked("new", fresh);
        TrustResolver told = Past.zones().x;
        notAsked("told much", told);
        told.ask(-1, Due.HOST);
        told.ask(0, 0);
        notAsked("refused questions", told);
        told.ask(0, Due.HOST);
        Due.is("reason", told.reason(), 12);
        Due.is("zone 0", told.zone(0), 0);
        Due.is("keys", told.figure(3), 1);
    }

    private static void notAsked(String when, TrustResolver x) {
        Due.is(when + ": reason", x.reason(), 0);
        Due.is(when + ": zone 0", x.zone(0), TrustResolver.NONE);
        Due.is(when + ": keys", x.figure(3), 0);
        for (int k = -1; k <= 1; k++) {
            Due.is(when + ": answer " + k, x.answer(k), 0);
        }
    }

    /** 'signatures are for the times 0 to 1000'. */
    private static void timesOfSignatures() {
        int[] times = {0, 1, 999, 1000};
        for (int time : times) {
            World w = World.rooted();
            w.x.tick(time);
            Due.says("time " + time, w.x, 0, Due.KEY, 8);
        }
        int[] behind = {1001, 1002, 100000};
        for (int time : behind) {
            World w = World.rooted();
            w.x.tick(time);
            Due.says("time " + time, w.x, 0, Due.KEY, 4);
        }
        timesAreInTheMark();
    }

    /** The mark has the times 0 and 1000 in it: it is moved to that of another set, and no other fits. */
    private static void timesAreInTheMark() {
        World w = World.rooted();
        w.x.add(0, Due.KEY, 12);
        int due = Due.digest(11, 0, Due.KEY, 0, 0, 1000, 0, 11, 12) - Due.digest(11, 0, Due.KEY, 0, 0, 1000, 0, 11);
        w.x.spoil(0, due);
        Due.says("with its mark", w.x, 0, Due.KEY, 8);
    }

    private static void noPlaceIsTaken() {
        TrustResolver x = new TrustResolver();
        for (int what = 0; what <= 3; what++) {
            Due.is("figure " + what, x.figure(what), 0);
        }
        Due.is("no signature", x.spoil(0, 0), false);
        Due.is("no set", x.drop(0, Due.HOST), 0);
        Due.is("first anchor", x.anchor(0, 0), 1);
        Due.is("first record", x.add(0, Due.HOST, 0), 1);
        Due.is("first signature", x.sign(0, Due.HOST, 0, 1, 0), 0);
        Due.is("time", x.tick(0), 0);
    }
}
