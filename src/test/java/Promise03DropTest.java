/** Promise 3: drop. */
public final class Promise03DropTest {
    private static final int OWNER = Due.name(4);

    public static void main(String[] args) {
        counts();
        wrong();
        signaturesStay();
        Due.end();
    }

    private static void counts() {
        TrustResolver x = new TrustResolver();
        x.add(OWNER, Due.HOST, 1);
        x.add(OWNER, Due.HOST, 2);
        x.add(OWNER, Due.HOST, 3);
        x.add(OWNER, Due.CUT, 4);
        x.add(Due.name(3), Due.HOST, 5);
        x.add(Due.name(4, 1), Due.HOST, 6);
        Due.is("none", x.drop(OWNER, Due.KEY), 0);
        Due.is("three", x.drop(OWNER, Due.HOST), 3);
        Due.is("again", x.drop(OWNER, Due.HOST), 0);
        Due.is("others stay", x.figure(0), 3);
        Due.is("other type", x.drop(OWNER, Due.CUT), 1);
        Due.is("before", x.drop(Due.name(3), Due.HOST), 1);
        Due.is("below", x.drop(Due.name(4, 1), Due.HOST), 1);
        Due.is("all gone", x.figure(0), 0);
        Due.is("new again", x.add(OWNER, Due.HOST, 2), 1);
    }

    private static void wrong() {
        TrustResolver x = new TrustResolver();
        x.add(OWNER, Due.HOST, 1);
        for (int owner : Due.NO_NAMES) {
            Due.is("owner " + owner, x.drop(owner, Due.HOST), TrustResolver.NONE);
        }
        for (int type : Due.NO_TYPES) {
            Due.is("type " + type, x.drop(OWNER, type), TrustResolver.NONE);
        }
        Due.is("records", x.figure(0), 1);
    }

    private static void signaturesStay() {
        World w = World.rooted();
        w.x.add(OWNER, Due.HOST, 8);
        w.signed(OWNER, Due.HOST, 9, 0, World.ROOT_KEY);
        w.x.drop(OWNER, Due.HOST);
        Due.is("signatures", w.x.figure(1), 2);
        Due.asked("empty", w.x, OWNER, Due.HOST, TrustResolver.FALSE, 14);
        w.x.add(OWNER, Due.HOST, 9);
        Due.asked("half", w.x, OWNER, Due.HOST, TrustResolver.FALSE, 11);
        w.x.add(OWNER, Due.HOST, 8);
        Due.asked("as it was", w.x, OWNER, Due.HOST, TrustResolver.TRUE, 8);
    }
}
