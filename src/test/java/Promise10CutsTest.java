/** Promise 10, the part CUTS: reasons 5 to 7, and the way from zone to zone. */
public final class Promise10CutsTest {
    private static final int ZONE = Due.name(5);
    private static final int HOST = Due.name(5, 7);
    private static final int TOP = World.ROOT_KEY;

    public static void main(String[] args) {
        sealsNotPlain();
        openCut();
        leastDataTells();
        sealsAreAskedAbove();
        uppermostCutFirst();
        allTheWayDown();
        noCutAtTheZoneItself();
        lowerZoneJudgesByItsOwnKeys();
        Due.end();
    }

    private static void sealsNotPlain() {
        World w = World.rooted();
        w.x.add(ZONE, Due.CUT, 1);
        w.x.add(ZONE, Due.SEAL, w.x.seal(ZONE, 22));
        w.holdKeys(ZONE, 22);
        w.signed(ZONE, Due.NEXT, Due.next(0, Due.CUT), 0, TOP);
        Due.asked("unsigned", w.x, HOST, Due.HOST, TrustResolver.FALSE, 5);
        w.sign(ZONE, Due.SEAL, ZONE, 22);
        Due.asked("signed below", w.x, HOST, Due.HOST, TrustResolver.FALSE, 5);
        w.sign(ZONE, Due.SEAL, 0, TOP, 0);
        Due.asked("as a star", w.x, ZONE, Due.HOST, TrustResolver.FALSE, 5);
        Due.is("not gone into", w.x.zone(1), TrustResolver.NONE);
        Due.is("the root's keys", w.x.figure(3), 1);
        w.sign(ZONE, Due.SEAL, 0, TOP);
        Due.asked("plain", w.x, ZONE, Due.KEY, TrustResolver.TRUE, 8);
        Due.is("gone into", w.x.zone(1), ZONE);
    }

    private static void openCut() {
        World w = World.rooted();
        w.x.add(ZONE, Due.CUT, 1);
        w.signed(HOST, Due.HOST, 1, 0, TOP);
        Due.asked("no NEXT", w.x, HOST, Due.HOST, TrustResolver.FALSE, 7);
        w.x.add(ZONE, Due.NEXT, Due.next(0, Due.CUT, Due.NEXT));
        Due.asked("unsigned", w.x, HOST, Due.HOST, TrustResolver.FALSE, 7);
        w.sign(ZONE, Due.NEXT, 0, TOP, 0);
        Due.asked("as a star", w.x, HOST, Due.HOST, TrustResolver.FALSE, 7);
        w.sign(ZONE, Due.NEXT, 0, TOP);
        Due.asked("below it", w.x, HOST, Due.HOST, TrustResolver.OPEN, 6);
        Due.asked("it itself", w.x, ZONE, Due.CUT, TrustResolver.OPEN, 6);
        Due.asked("a seal below it", w.x, HOST, Due.SEAL, TrustResolver.OPEN, 6);
        Due.is("zones", w.x.zone(1), TrustResolver.NONE);
        Due.is("keys", w.x.figure(3), 1);
    }

    private static void leastDataTells() {
        asTold("CUT and SEAL", 7, Due.next(0, Due.CUT, Due.SEAL));
        asTold("SEAL alone", 7, Due.next(0, Due.SEAL));
        asTold("nothing", 7, Due.next(0));
        asTold("others", 7, Due.next(0, Due.HOST, Due.KEY, Due.NEXT));
        asTold("all but SEAL", 6, Due.next(Due.name(27, 27, 27, 27), Due.HOST, Due.CUT, Due.KEY, Due.NEXT));
        asTold("the first does", 6, Due.next(0, Due.CUT), Due.next(0, Due.CUT, Due.SEAL));
        asTold("the second does", 7, Due.next(0, Due.CUT), Due.next(0, Due.HOST));
    }

    private static void asTold(String what, int reason, int... datas) {
        World w = World.rooted();
        w.x.add(ZONE, Due.CUT, 1);
        for (int data : datas) {
            w.x.add(ZONE, Due.NEXT, data);
        }
        w.sign(ZONE, Due.NEXT, 0, TOP);
        Due.asked(what, w.x, HOST, Due.HOST, reason == 6 ? TrustResolver.OPEN : TrustResolver.FALSE, reason);
    }

    private static void sealsAreAskedAbove() {
        World w = World.rooted();
        w.zoneBelow(0, TOP, ZONE, 22);
        Due.asked("seal", w.x, ZONE, Due.SEAL, TrustResolver.TRUE, 8);
        Due.is("zones", w.x.zone(1), TrustResolver.NONE);
        Due.asked("cut", w.x, ZONE, Due.CUT, TrustResolver.FALSE, 11);
        Due.is("zones", w.x.zone(1), ZONE);
        w.zoneBelow(ZONE, 22, HOST, 33);
        Due.asked("lower seal", w.x, HOST, Due.SEAL, TrustResolver.TRUE, 8);
        Due.is("zones", w.x.zone(1), ZONE);
        Due.is("zones", w.x.zone(2), TrustResolver.NONE);
        w.x.anchor(ZONE, w.x.seal(ZONE, 22));
        Due.asked("of the anchor", w.x, ZONE, Due.SEAL, TrustResolver.FALSE, 11);
        Due.is("by itself", w.x.zone(0), ZONE);
    }

    private static void uppermostCutFirst() {
        World w = World.rooted();
        w.x.add(HOST, Due.CUT, 1);
        w.signed(HOST, Due.NEXT, Due.next(0, Due.CUT), 0, TOP);
        Due.asked("the only one", w.x, HOST, Due.HOST, TrustResolver.OPEN, 6);
        w.x.add(ZONE, Due.CUT, 1);
        Due.asked("one above it", w.x, HOST, Due.HOST, TrustResolver.FALSE, 7);
        w.x.drop(ZONE, Due.CUT);
        w.x.add(Due.name(6), Due.CUT, 1);
        w.x.add(Due.name(5, 8), Due.CUT, 1);
        w.x.add(Due.name(5, 7, 1), Due.CUT, 1);
        Due.asked("beside and below", w.x, HOST, Due.HOST, TrustResolver.OPEN, 6);
    }

    private static void allTheWayDown() {
        World w = World.rooted();
        int[] zones = {0, Due.name(9), Due.name(9, 8), Due.name(9, 8, 7), Due.name(9, 8, 7, 6)};
        for (int k = 1; k < zones.length; k++) {
            w.zoneBelow(zones[k - 1], TOP + k - 1, zones[k], TOP + k, 100 + k);
        }
        w.signed(zones[4], Due.HOST, 77, zones[4], 104);
        Due.asked("at the end", w.x, zones[4], Due.HOST, TrustResolver.TRUE, 8);
        for (int k = 0; k < zones.length; k++) {
            Due.is("zone " + k, w.x.zone(k), zones[k]);
        }
        Due.is("zone 5", w.x.zone(5), TrustResolver.NONE);
        Due.is("keys", w.x.figure(3), 2);
        Due.is("answer", w.x.answer(0), 77);
        w.x.drop(zones[2], Due.SEAL);
        Due.asked("cut off in the middle", w.x, zones[4], Due.HOST, TrustResolver.FALSE, 7);
        Due.is("the last zone", w.x.zone(1), zones[1]);
        Due.is("none behind", w.x.zone(2), TrustResolver.NONE);
    }

    private static void noCutAtTheZoneItself() {
        World w = World.rooted();
        w.signed(0, Due.CUT, 3, 0, TOP);
        Due.asked("at the root", w.x, 0, Due.CUT, TrustResolver.TRUE, 8);
        w.holdKeys(ZONE, 22);
        w.signed(ZONE, Due.CUT, 4, ZONE, 22);
        w.x.anchor(ZONE, w.x.seal(ZONE, 22));
        Due.asked("at an anchor", w.x, ZONE, Due.CUT, TrustResolver.TRUE, 8);
        Due.is("one zone", w.x.zone(1), TrustResolver.NONE);
    }

    private static void lowerZoneJudgesByItsOwnKeys() {
        World w = World.rooted();
        w.zoneBelow(0, TOP, ZONE, 22);
        w.signed(HOST, Due.HOST, 1, 0, TOP);
        Due.asked("signed by the upper zone", w.x, HOST, Due.HOST, TrustResolver.FALSE, 11);
        w.sign(HOST, Due.HOST, ZONE, TOP);
        Due.asked("by its key", w.x, HOST, Due.HOST, TrustResolver.FALSE, 11);
        w.sign(HOST, Due.HOST, 0, 22);
        Due.asked("for the upper zone", w.x, HOST, Due.HOST, TrustResolver.FALSE, 11);
        w.sign(HOST, Due.HOST, ZONE, 22);
        Due.asked("by the lower zone", w.x, HOST, Due.HOST, TrustResolver.TRUE, 8);
    }
}
