/** The edges of promise 4. */
public final class Edge04WindowTest {
    private static final int TOP = Past.TOP;
    private static final int OWNER = Due.name(8);

    public static void main(String[] args) {
        thoseThereAreKeepTheirs();
        fromNowOn();
        firstBelowZero();
        lastBelowFirst();
        Due.end();
    }

    /** '(those there are keep theirs)': a window that shuts them out leaves them as they are. */
    private static void thoseThereAreKeepTheirs() {
        World w = World.rooted();
        w.signed(OWNER, Due.HOST, 1, 0, TOP);
        Due.is("another window", w.x.window(500, 600), true);
        Due.says("time 0", w.x, OWNER, Due.HOST, 8);
        w.x.tick(1000);
        Due.says("time 1000", w.x, OWNER, Due.HOST, 8);
        w.x.tick(1);
        w.x.window(0, 5000);
        Due.says("time 1001", w.x, OWNER, Due.HOST, 4);
    }

    /** 'that are made from now on': all of them, until there is another window. */
    private static void fromNowOn() {
        World w = World.rooted();
        w.x.window(2, 3);
        w.signed(OWNER, Due.HOST, 1, 0, TOP);
        w.x.tick(1);
        w.signed(Due.name(9), Due.HOST, 1, 0, TOP);
        w.x.window(1, 1);
        w.signed(Due.name(10), Due.HOST, 1, 0, TOP);
        int[][] good = {{11, 11, 8}, {8, 8, 11}, {8, 8, 11}, {11, 11, 11}};
        for (int k = 0; k < good.length; k++) {
            for (int host = 0; host < 3; host++) {
                Due.says("time " + (1 + k) + ", host " + host, w.x, Due.name(8 + host), Due.HOST, good[k][host]);
            }
            w.x.tick(1);
        }
    }

    /** 'false when first is below 0'. */
    private static void firstBelowZero() {
        int[][] wrong = {{-1, 5}, {-1, -1}, {-1, Integer.MAX_VALUE}, {Integer.MIN_VALUE, 0},
            {Integer.MIN_VALUE, Integer.MAX_VALUE}, {Integer.MIN_VALUE, Integer.MIN_VALUE}};
        refused(wrong);
        taken(new int[][] {{0, 5}, {0, 0}, {0, Integer.MAX_VALUE}});
    }

    /** 'or last below first'. */
    private static void lastBelowFirst() {
        int[][] wrong = {{1, 0}, {5, 4}, {0, -1}, {0, Integer.MIN_VALUE}, {1001, 1000},
            {Integer.MAX_VALUE, Integer.MAX_VALUE - 1}, {Integer.MAX_VALUE, Integer.MIN_VALUE}};
        refused(wrong);
        taken(new int[][] {{1, 1}, {5, 5}, {5, 6}, {1000, 1001}, {Integer.MAX_VALUE, Integer.MAX_VALUE}});
    }

    private static void refused(int[][] windows) {
        for (int[] times : windows) {
            Twins.changesNothing("window " + times[0] + ", " + times[1], x -> x.window(times[0], times[1]));
        }
    }

    private static void taken(int[][] windows) {
        for (int[] times : windows) {
            for (Past past : Past.values()) {
                Due.is("window " + times[0] + ", " + times[1], past.made().window(times[0], times[1]), true);
            }
        }
    }
}
