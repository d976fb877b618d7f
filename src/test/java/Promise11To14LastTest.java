/** Promises 11 to 14: reason, answer, zone and figure, which tell of what was asked last. */
public final class Promise11To14LastTest {
    private static final int TOP = World.ROOT_KEY;
    private static final int ZONE = Due.name(5);
    private static final int HOST = Due.name(5, 7);
    private static final int[] NO_ROWS = {-1, 48, 49, Integer.MIN_VALUE, Integer.MAX_VALUE};

    public static void main(String[] args) {
        beforeAnything();
        wrongQuestionsLeaveIt();
        answerIsOfNow();
        answerOnlyWhenTrue();
        zones();
        figures();
        countedKeysAreOfThen();
        Due.end();
    }

    private static World twoZones() {
        World w = World.rooted();
        w.zoneBelow(0, TOP, ZONE, 22, 23, 24);
        w.x.add(HOST, Due.HOST, 40);
        w.signed(HOST, Due.HOST, -40, ZONE, 24);
        return w;
    }

    private static void beforeAnything() {
        World w = twoZones();
        Due.is("reason", w.x.reason(), 0);
        Due.is("answer", w.x.answer(0), 0);
        Due.is("zone", w.x.zone(0), TrustResolver.NONE);
        Due.is("keys", w.x.figure(3), 0);
    }

    private static void wrongQuestionsLeaveIt() {
        World w = twoZones();
        Due.asked("asked", w.x, HOST, Due.HOST, TrustResolver.TRUE, 8);
        Due.is("no name", w.x.ask(-1, Due.HOST), TrustResolver.NONE);
        Due.is("no type", w.x.ask(HOST, 6), TrustResolver.NONE);
        Due.is("reason", w.x.reason(), 8);
        Due.is("answer", w.x.answer(1), 40);
        Due.is("zone", w.x.zone(1), ZONE);
        Due.is("keys", w.x.figure(3), 3);
    }

    private static void answerIsOfNow() {
        World w = twoZones();
        w.x.ask(HOST, Due.HOST);
        Due.is("0", w.x.answer(0), -40);
        Due.is("1", w.x.answer(1), 40);
        Due.is("2", w.x.answer(2), 0);
        for (int k : NO_ROWS) {
            Due.is("answer " + k, w.x.answer(k), 0);
        }
        w.x.add(HOST, Due.HOST, 3);
        w.x.add(Due.name(4), Due.HOST, 3);
        w.x.add(HOST, Due.CUT, 5);
        Due.is("one came", w.x.answer(1), 3);
        Due.is("one came", w.x.answer(2), 40);
        Due.is("none behind, but another set", w.x.answer(3), 0);
        Due.is("reason stays", w.x.reason(), 8);
        w.x.drop(HOST, Due.HOST);
        Due.is("all went", w.x.answer(0), 0);
        w.x.add(HOST, Due.HOST, 9);
        Due.is("another came", w.x.answer(0), 9);
    }

    private static void answerOnlyWhenTrue() {
        World w = twoZones();
        w.x.ask(HOST, Due.HOST);
        w.x.ask(HOST, Due.CUT);
        Due.is("not covered", w.x.reason(), 14);
        w.x.add(HOST, Due.CUT, 5);
        Due.is("answer", w.x.answer(0), 0);
        Due.asked("of the star", w.x, starHost(w), Due.HOST, TrustResolver.TRUE, 9);
        Due.is("answer", w.x.answer(0), 66);
        Due.asked("a proof", w.x, Due.name(8, 1), Due.HOST, TrustResolver.TRUE, 15);
        w.x.add(Due.name(8, 1), Due.HOST, 8);
        Due.is("answer", w.x.answer(0), 0);
        Due.asked("unsigned", w.x, Due.name(8, 1), Due.HOST, TrustResolver.FALSE, 11);
        Due.is("answer", w.x.answer(0), 0);
        w.x.tick(1001);
        w.x.ask(HOST, Due.HOST);
        Due.is("out of time", w.x.reason(), 4);
        Due.is("answer", w.x.answer(0), 0);
    }

    private static int starHost(World w) {
        int host = Due.name(7, 7);
        w.signed(0, Due.NEXT, Due.next(Due.name(5)), 0, TOP);
        w.signed(Due.name(6), Due.NEXT, Due.next(0), 0, TOP);
        w.x.add(host, Due.HOST, 66);
        w.sign(host, Due.HOST, 0, TOP, 0);
        return host;
    }

    private static void zones() {
        World w = twoZones();
        w.x.ask(HOST, Due.HOST);
        Due.is("0", w.x.zone(0), 0);
        Due.is("1", w.x.zone(1), ZONE);
        Due.is("2", w.x.zone(2), TrustResolver.NONE);
        for (int k : NO_ROWS) {
            Due.is("zone " + k, w.x.zone(k), TrustResolver.NONE);
        }
        w.x.drop(ZONE, Due.CUT);
        w.x.anchor(ZONE, 5);
        Due.is("as it was asked", w.x.zone(1), ZONE);
        w.x.ask(Due.name(6), Due.HOST);
        Due.is("shorter way", w.x.zone(0), 0);
        Due.is("shorter way", w.x.zone(1), TrustResolver.NONE);
        w.x.ask(HOST, Due.HOST);
        Due.is("from the new anchor", w.x.zone(0), ZONE);
        Due.is("from the new anchor", w.x.reason(), 3);
        World none = new World();
        none.x.anchor(ZONE, 1);
        none.x.ask(HOST, Due.HOST);
        Due.is("its anchor", none.x.zone(0), ZONE);
        none.x.ask(0, Due.HOST);
        Due.is("no anchor, no zone", none.x.zone(0), TrustResolver.NONE);
    }

    private static void figures() {
        World w = twoZones();
        Due.is("records", w.x.figure(0), 8);
        Due.is("signatures", w.x.figure(1), 4);
        Due.is("time", w.x.figure(2), 0);
        w.x.tick(12);
        Due.is("time", w.x.figure(2), 12);
        w.x.drop(HOST, Due.HOST);
        Due.is("records", w.x.figure(0), 6);
        Due.is("signatures", w.x.figure(1), 4);
        int[] wrong = {-1, 4, 5, Integer.MIN_VALUE, Integer.MAX_VALUE};
        for (int what : wrong) {
            Due.is("figure " + what, w.x.figure(what), TrustResolver.NONE);
        }
    }

    private static void countedKeysAreOfThen() {
        World w = twoZones();
        w.x.ask(0, Due.KEY);
        Due.is("the root's", w.x.figure(3), 1);
        w.x.ask(HOST, Due.HOST);
        Due.is("the lower zone's", w.x.figure(3), 3);
        w.x.add(ZONE, Due.KEY, 25);
        Due.is("as it was asked", w.x.figure(3), 3);
        w.x.ask(HOST, Due.HOST);
        Due.is("not plain now", w.x.reason(), 4);
        Due.is("did not come to that there", w.x.figure(3), 0);
        w.x.drop(ZONE, Due.KEY);
        w.x.ask(HOST, Due.HOST);
        Due.is("no keys", w.x.reason(), 2);
        Due.is("no keys", w.x.figure(3), 0);
        w.holdKeys(ZONE, 26);
        w.x.ask(HOST, Due.HOST);
        Due.is("none sealed", w.x.reason(), 3);
        Due.is("none sealed", w.x.figure(3), 0);
        w.x.add(ZONE, Due.SEAL, 1);
        w.x.ask(HOST, Due.HOST);
        Due.is("seals not plain", w.x.reason(), 5);
        Due.is("the root's", w.x.figure(3), 1);
        Due.is("no zone behind", w.x.zone(1), TrustResolver.NONE);
        World apart = new World();
        apart.holdKeys(ZONE, 22);
        apart.x.anchor(ZONE, apart.x.seal(ZONE, 22));
        apart.x.ask(HOST, Due.HOST);
        Due.is("the anchor's", apart.x.figure(3), 1);
        apart.x.ask(0, Due.HOST);
        Due.is("no zone", apart.x.figure(3), 0);
    }
}
