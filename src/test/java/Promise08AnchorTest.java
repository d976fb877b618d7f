/** Promise 8: anchor. */
public final class Promise08AnchorTest {
    public static void main(String[] args) {
        counts();
        wrong();
        inPlace();
        Due.end();
    }

    private static void counts() {
        TrustResolver x = new TrustResolver();
        Due.is("1st", x.anchor(Due.name(1), 0), 1);
        Due.is("1st again", x.anchor(Due.name(1), Integer.MAX_VALUE), 1);
        Due.is("2nd", x.anchor(0, 1), 2);
        Due.is("3rd", x.anchor(Due.name(1, 1), 1), 3);
        Due.is("4th", x.anchor(Due.name(27, 27, 27, 27), 1), 4);
        Due.is("5th", x.anchor(Due.name(2), 1), TrustResolver.FULL);
        Due.is("wrong before full", x.anchor(Due.name(2), -1), TrustResolver.NONE);
        int[] there = {Due.name(1), 0, Due.name(1, 1), Due.name(27, 27, 27, 27)};
        for (int zone : there) {
            Due.is("in place of " + zone, x.anchor(zone, 5), 4);
        }
        Due.is("5th still", x.anchor(Due.name(2), 1), TrustResolver.FULL);
    }

    private static void wrong() {
        TrustResolver x = new TrustResolver();
        for (int zone : Due.NO_NAMES) {
            Due.is("zone " + zone, x.anchor(zone, 1), TrustResolver.NONE);
        }
        Due.is("digest -1", x.anchor(0, -1), TrustResolver.NONE);
        Due.is("digest least", x.anchor(0, Integer.MIN_VALUE), TrustResolver.NONE);
        Due.asked("none was made", x, 0, Due.HOST, TrustResolver.UNKNOWN, 1);
    }

    private static void inPlace() {
        World w = World.rooted();
        int good = w.x.seal(0, World.ROOT_KEY);
        Due.asked("good", w.x, 0, Due.KEY, TrustResolver.TRUE, 8);
        w.x.anchor(0, good ^ 1);
        Due.asked("another digest", w.x, 0, Due.KEY, TrustResolver.FALSE, 3);
        w.x.anchor(0, -1);
        Due.asked("refused", w.x, 0, Due.KEY, TrustResolver.FALSE, 3);
        w.x.anchor(Due.name(1), 1);
        w.x.anchor(Due.name(2), 1);
        w.x.anchor(Due.name(3), 1);
        w.x.anchor(0, good);
        Due.asked("good again", w.x, 0, Due.KEY, TrustResolver.TRUE, 8);
    }
}
