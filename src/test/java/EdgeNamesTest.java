/** The edges of 'Terms', names: 'with up to 4 labels, 1 .. 27, ... 0 ..., at the end alone'. */
public final class EdgeNamesTest {
    private static final int NAMES_IN_ALL = 1 + 27 + 27 * 27 + 27 * 27 * 27 + 27 * 27 * 27 * 27;

    public static void main(String[] args) {
        everyInt();
        depths();
        labels();
        zeroAtTheEndAlone();
        everyCallThatTakesAName();
        stars();
        Due.end();
    }

    /** Every int of 20 bits and those beside them, by objects of no more than 512 calls each. */
    private static void everyInt() {
        int names = 0;
        TrustResolver x = new TrustResolver();
        for (int k = -512; k < (1 << 20) + 512; k++) {
            if (k % 512 == 0) {
                x = new TrustResolver();
            }
            int due = Model.labels(k) != null ? 0 : -2;
            Due.is("above " + k, x.above(k, k), due);
            names += due == 0 ? 1 : 0;
        }
        Due.is("names in all", names, NAMES_IN_ALL);
    }

    /** Names of 0 to 4 labels, of the least and the greatest label; a fifth has no room. */
    private static void depths() {
        TrustResolver x = new TrustResolver();
        int least = 0;
        int greatest = 0;
        for (int depth = 0; depth <= 4; depth++) {
            Due.is("least of depth " + depth, x.add(least, Due.HOST, 0), 1);
            Due.is("greatest of depth " + depth, x.add(greatest, Due.CUT, 0), 1);
            for (int labels = 0; labels <= depth; labels++) {
                Due.is(labels + " labels of depth " + depth, x.sign(least, Due.HOST, 0, 1, labels) >= 0, true);
            }
            Due.is("too many of depth " + depth, x.sign(least, Due.HOST, 0, 1, depth + 1), TrustResolver.NONE);
            if (depth < 4) {
                least |= 1 << (15 - 5 * depth);
                greatest |= 27 << (15 - 5 * depth);
            }
        }
        Due.is("a fifth label before them", x.add(1 << 20 | least, Due.HOST, 0), TrustResolver.NONE);
    }

    private static void labels() {
        TrustResolver x = new TrustResolver();
        int[] before = {0, Due.name(27), Due.name(1, 27), Due.name(27, 1, 27)};
        for (int place = 0; place < 4; place++) {
            for (int label = 1; label <= 31; label++) {
                int due = label <= 27 ? -1 : -2;
                int name = before[place] | label << (15 - 5 * place);
                Due.is("label " + label + " in place " + place, x.above(before[place], name), due);
            }
        }
    }

    /** All sixteen ways in which four labels are 0 or not. */
    private static void zeroAtTheEndAlone() {
        for (int ways = 0; ways < 16; ways++) {
            int name = 0;
            for (int place = 0; place < 4; place++) {
                name |= (ways >> (3 - place) & 1) * 3 << (15 - 5 * place);
            }
            boolean is = ways == 0 || ways == 8 || ways == 12 || ways == 14 || ways == 15;
            int due = is ? 0 : TrustResolver.NONE;
            Due.is("drop " + name, new TrustResolver().drop(name, Due.HOST), due);
        }
    }

    private static void everyCallThatTakesAName() {
        for (int no : Due.NO_NAMES) {
            String as = " for the name " + no;
            int none = TrustResolver.NONE;
            Twins.changesNothing("add" + as, none, x -> x.add(no, Due.HOST, 40));
            Twins.changesNothing("drop" + as, none, x -> x.drop(no, Due.HOST));
            Twins.changesNothing("sign" + as, none, x -> x.sign(no, Due.KEY, 0, Past.TOP, 0));
            Twins.changesNothing("sign by" + as, none, x -> x.sign(0, Due.KEY, no, Past.TOP, 0));
            Twins.changesNothing("seal" + as, none, x -> x.seal(no, Past.TOP));
            Twins.changesNothing("anchor" + as, none, x -> x.anchor(no, 1));
            Twins.changesNothing("ask" + as, none, x -> x.ask(no, Due.HOST));
            Twins.changesNothing("above" + as, -2, x -> x.above(no, 0));
            Twins.changesNothing("above, other" + as, -2, x -> x.above(0, no));
        }
    }

    /** 'The star of a name (of depth 0 to 3)': the star of c proves that there is no name below c. */
    private static void stars() {
        int[] chain = {0, Due.name(9), Due.name(9, 9), Due.name(9, 9, 9), Due.name(9, 9, 9, 9)};
        for (int depth = 0; depth <= 3; depth++) {
            World w = World.rooted();
            int star = chain[depth] | 1 << (15 - 5 * depth);
            w.signed(chain[depth], Due.NEXT, Due.next(star), 0, Past.TOP);
            String at = "depth " + depth + ": ";
            Due.asked(at + "not covered", w.x, chain[depth + 1], Due.HOST, TrustResolver.FALSE, 14);
            int behind = chain[depth] | 2 << (15 - 5 * depth);
            w.signed(behind, Due.NEXT, Due.next(0), 0, Past.TOP);
            Due.asked(at + "star neither covered nor told", w.x, chain[depth + 1], Due.HOST, TrustResolver.FALSE, 17);
            w.signed(star, Due.NEXT, Due.next(0, Due.KEY), 0, Past.TOP);
            Due.asked(at + "star without it", w.x, chain[depth + 1], Due.HOST, TrustResolver.TRUE, 16);
            Due.asked(at + "star with it", w.x, chain[depth + 1], Due.KEY, TrustResolver.FALSE, 17);
            w.x.drop(chain[depth], Due.NEXT);
            w.signed(chain[depth], Due.NEXT, Due.next(0), 0, Past.TOP);
            Due.asked(at + "star covered", w.x, chain[depth + 1], Due.KEY, TrustResolver.TRUE, 15);
        }
    }
}
