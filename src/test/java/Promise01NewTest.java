/** Promise 1: a new object. */
public final class Promise01NewTest {
    public static void main(String[] args) {
        empty();
        timesOfSignatures();
        objectsAreApart();
        Due.end();
    }

    private static void empty() {
        TrustResolver x = new TrustResolver();
        Due.is("records", x.figure(0), 0);
        Due.is("signatures", x.figure(1), 0);
        Due.is("time", x.figure(2), 0);
        Due.is("keys", x.figure(3), 0);
        Due.is("reason", x.reason(), 0);
        Due.is("answer", x.answer(0), 0);
        Due.is("zone", x.zone(0), TrustResolver.NONE);
        Due.is("spoil", x.spoil(0, 1), false);
        Due.asked("no anchors", x, 0, Due.HOST, TrustResolver.UNKNOWN, 1);
    }

    private static void timesOfSignatures() {
        World w = World.rooted();
        w.signed(Due.name(5), Due.HOST, 7, 0, World.ROOT_KEY);
        Due.asked("time 0", w.x, Due.name(5), Due.HOST, TrustResolver.TRUE, 8);
        w.x.tick(1000);
        Due.asked("time 1000", w.x, Due.name(5), Due.HOST, TrustResolver.TRUE, 8);
        w.x.tick(1);
        Due.asked("time 1001", w.x, Due.name(5), Due.HOST, TrustResolver.FALSE, 4);
    }

    private static void objectsAreApart() {
        World w = World.rooted();
        w.x.ask(0, Due.KEY);
        TrustResolver other = new TrustResolver();
        Due.is("records of another object", other.figure(0), 0);
        Due.is("anchors of another object", other.ask(0, Due.KEY), TrustResolver.UNKNOWN);
        Due.is("reason stays", w.x.reason(), 8);
    }
}
