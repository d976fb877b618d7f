/** Promise 10, the part ANSWERS: reasons 8 to 17. */
public final class Promise10AnswersTest {
    private static final int TOP = World.ROOT_KEY;

    public static void main(String[] args) {
        plainBeforeStar();
        starSignature();
        starOfTheRoot();
        firstGoodOneCounts();
        firstOfAllSignatures();
        starOwnerItself();
        notSigned();
        noSuchType();
        atTheZone();
        covered();
        coveredToTheEnd();
        leastNextCovers();
        nextMustBePlain();
        closestKnown();
        starTells();
        emptyBetween();
        Due.end();
    }

    private static void plainBeforeStar() {
        World w = World.rooted();
        int host = Due.name(5, 7);
        w.x.add(host, Due.HOST, 1);
        w.sign(host, Due.HOST, 0, TOP, 1);
        w.sign(host, Due.HOST, 0, TOP, 0);
        Due.asked("stars alone", w.x, host, Due.HOST, TrustResolver.FALSE, 10);
        w.sign(host, Due.HOST, 0, TOP, 2);
        Due.asked("plain too", w.x, host, Due.HOST, TrustResolver.TRUE, 8);
    }

    /** A host 5.7.3 from the star of 5: 5.7 must be covered. */
    private static void starSignature() {
        int host = Due.name(5, 7, 3);
        for (int from = 5; from <= 9; from++) {
            for (int to = 5; to <= 9; to++) {
                World w = World.rooted();
                w.x.add(host, Due.HOST, 1);
                w.sign(host, Due.HOST, 0, TOP, 1);
                w.signed(Due.name(5, from), Due.NEXT, Due.next(Due.name(5, to)), 0, TOP);
                boolean holds = from < 7 && to > 7;
                Due.asked(from + " to " + to, w.x, host, Due.HOST,
                        holds ? TrustResolver.TRUE : TrustResolver.FALSE, holds ? 9 : 10);
                Due.is("answer", w.x.answer(0), holds ? 1 : 0);
            }
        }
    }

    private static void starOfTheRoot() {
        World w = World.rooted();
        int host = Due.name(5, 7, 3, 2);
        w.x.add(host, Due.KEY, 5);
        w.sign(host, Due.KEY, 0, TOP, 0);
        w.signed(Due.name(5, 6), Due.NEXT, Due.next(0), 0, TOP);
        Due.asked("5 is not covered", w.x, host, Due.KEY, TrustResolver.FALSE, 10);
        w.signed(Due.name(4, 27), Due.NEXT, Due.next(Due.name(5, 1)), 0, TOP);
        Due.asked("5 is covered", w.x, host, Due.KEY, TrustResolver.TRUE, 9);
    }

    private static void firstGoodOneCounts() {
        World w = World.rooted();
        int host = Due.name(5, 7, 3);
        w.x.add(host, Due.HOST, 1);
        int first = w.sign(host, Due.HOST, 0, TOP, 2);
        w.sign(host, Due.HOST, 0, TOP, 1);
        w.signed(Due.name(5, 6), Due.NEXT, Due.next(Due.name(5, 7, 2)), 0, TOP);
        Due.asked("the first, 5.7.3", w.x, host, Due.HOST, TrustResolver.FALSE, 10);
        w.x.spoil(first, 1);
        Due.asked("the second, 5.7", w.x, host, Due.HOST, TrustResolver.TRUE, 9);
        w.x.spoil(first, -1);
        w.signed(Due.name(5, 7, 2), Due.NEXT, Due.next(Due.name(5, 7, 4)), 0, TOP);
        w.x.drop(Due.name(5, 6), Due.NEXT);
        Due.asked("the first again", w.x, host, Due.HOST, TrustResolver.TRUE, 9);
    }

    private static void firstOfAllSignatures() {
        World w = new World();
        int host = Due.name(5, 7);
        w.x.add(host, Due.HOST, 1);
        Due.is("its number", w.sign(host, Due.HOST, 0, TOP, 0), 0);
        w.holdKeys(0, TOP);
        w.x.anchor(0, w.x.seal(0, TOP));
        Due.asked("a star's", w.x, host, Due.HOST, TrustResolver.FALSE, 10);
    }

    /** A star's own set, signed with one label less, signs the same name, but is not plain. */
    private static void starOwnerItself() {
        World w = World.rooted();
        int star = Due.name(5, 1);
        w.x.add(star, Due.HOST, 1);
        w.sign(star, Due.HOST, 0, TOP, 1);
        Due.asked("as a star", w.x, star, Due.HOST, TrustResolver.FALSE, 10);
        w.sign(star, Due.HOST, 0, TOP, 2);
        Due.asked("plain", w.x, star, Due.HOST, TrustResolver.TRUE, 8);
    }

    private static void notSigned() {
        World w = World.rooted();
        int host = Due.name(5);
        w.x.add(host, Due.HOST, 1);
        w.signed(host, Due.NEXT, Due.next(0, Due.NEXT), 0, TOP);
        Due.asked("unsigned", w.x, host, Due.HOST, TrustResolver.FALSE, 11);
        w.sign(host, Due.HOST, 0, 12);
        Due.asked("no key of the zone", w.x, host, Due.HOST, TrustResolver.FALSE, 11);
        w.x.window(1, 2);
        w.sign(host, Due.HOST, 0, TOP);
        Due.asked("not yet", w.x, host, Due.HOST, TrustResolver.FALSE, 11);
        w.x.tick(1);
        Due.asked("now", w.x, host, Due.HOST, TrustResolver.TRUE, 8);
    }

    private static void noSuchType() {
        int host = Due.name(5);
        for (int type = Due.HOST; type <= Due.KEY; type++) {
            World w = World.rooted();
            w.x.add(host, Due.NEXT, Due.next(host, type));
            Due.asked("unsigned", w.x, host, Due.HOST, TrustResolver.FALSE, 14);
            w.sign(host, Due.NEXT, 0, TOP);
            for (int asked = Due.HOST; asked <= Due.KEY; asked++) {
                boolean told = asked == type;
                Due.asked("tells " + type + ", asked " + asked, w.x, host, asked,
                        told ? TrustResolver.FALSE : TrustResolver.TRUE, told ? 13 : 12);
                Due.is("answer", w.x.answer(0), 0);
            }
            w.x.add(host, Due.NEXT, Due.next(0));
            w.sign(host, Due.NEXT, 0, TOP);
            Due.asked("the least does not tell it", w.x, host, type, TrustResolver.TRUE, 12);
        }
    }

    private static void atTheZone() {
        World w = World.rooted();
        w.signed(Due.name(1), Due.NEXT, Due.next(0), 0, TOP);
        Due.asked("the root", w.x, 0, Due.HOST, TrustResolver.FALSE, 14);
        w.zoneBelow(0, TOP, Due.name(5), 22);
        Due.asked("a lower one", w.x, Due.name(5), Due.HOST, TrustResolver.FALSE, 14);
        w.signed(0, Due.NEXT, Due.next(Due.name(1), Due.KEY), 0, TOP);
        Due.asked("with a NEXT", w.x, 0, Due.HOST, TrustResolver.TRUE, 12);
    }

    /** 7 is asked for; the star, 1, is covered by the root's own NEXT in every case. */
    private static void covered() {
        for (int from = 2; from <= 9; from++) {
            for (int to = 0; to <= 9; to++) {
                if (from == 7) {
                    continue;
                }
                World w = World.rooted();
                w.signed(0, Due.NEXT, Due.next(Due.name(2)), 0, TOP);
                w.signed(Due.name(from), Due.NEXT, Due.next(to == 0 ? 0 : Due.name(to)), 0, TOP);
                boolean holds = from < 7 && (to > 7 || to == 0);
                Due.asked(from + " to " + to, w.x, Due.name(7), Due.HOST,
                        holds ? TrustResolver.TRUE : TrustResolver.FALSE, holds ? 15 : 14);
            }
        }
    }

    /** The last NEXT tells the zone's own name: the root's in the root, another one's below. */
    private static void coveredToTheEnd() {
        World w = World.rooted();
        int zone = Due.name(5);
        w.zoneBelow(0, TOP, zone, 22);
        w.signed(zone, Due.NEXT, Due.next(Due.name(5, 2)), zone, 22);
        w.signed(Due.name(5, 2), Due.NEXT, Due.next(0), zone, 22);
        Due.asked("to the root", w.x, Due.name(5, 7), Due.HOST, TrustResolver.FALSE, 14);
        w.x.drop(Due.name(5, 2), Due.NEXT);
        w.signed(Due.name(5, 2), Due.NEXT, Due.next(zone), zone, 22);
        Due.asked("to the zone", w.x, Due.name(5, 7), Due.HOST, TrustResolver.TRUE, 15);
        Due.asked("far behind", w.x, Due.name(5, 27, 27, 27), Due.HOST, TrustResolver.TRUE, 15);
        w.signed(0, Due.NEXT, Due.next(Due.name(5)), 0, TOP);
        Due.asked("the root does not end at 5", w.x, Due.name(6), Due.HOST, TrustResolver.FALSE, 14);
    }

    private static void leastNextCovers() {
        World w = World.rooted();
        w.x.add(0, Due.NEXT, Due.next(Due.name(3)));
        w.x.add(0, Due.NEXT, Due.next(Due.name(9)));
        w.sign(0, Due.NEXT, 0, TOP);
        Due.asked("within the least", w.x, Due.name(2), Due.HOST, TrustResolver.TRUE, 15);
        Due.asked("within the greater one", w.x, Due.name(4), Due.HOST, TrustResolver.FALSE, 14);
        w.x.add(0, Due.NEXT, Due.next(0, Due.HOST));
        w.sign(0, Due.NEXT, 0, TOP);
        Due.asked("types make data greater", w.x, Due.name(4), Due.HOST, TrustResolver.FALSE, 14);
    }

    private static void nextMustBePlain() {
        World w = World.rooted();
        int owner = Due.name(2);
        w.signed(0, Due.NEXT, Due.next(Due.name(2)), 0, TOP);
        w.x.add(owner, Due.NEXT, Due.next(Due.name(9)));
        Due.asked("unsigned", w.x, Due.name(7), Due.HOST, TrustResolver.FALSE, 14);
        w.sign(owner, Due.NEXT, 0, TOP, 0);
        Due.asked("as a star", w.x, Due.name(7), Due.HOST, TrustResolver.FALSE, 14);
        w.sign(owner, Due.NEXT, owner, TOP);
        Due.asked("by another zone", w.x, Due.name(7), Due.HOST, TrustResolver.FALSE, 14);
        w.sign(owner, Due.NEXT, 0, TOP);
        Due.asked("plain", w.x, Due.name(7), Due.HOST, TrustResolver.TRUE, 15);
        w.x.drop(owner, Due.NEXT);
        w.signed(owner, Due.HOST, Due.next(Due.name(9)), 0, TOP);
        Due.asked("another type", w.x, Due.name(7), Due.HOST, TrustResolver.FALSE, 14);
    }

    private static void closestKnown() {
        int q = Due.name(5, 6, 7, 8);
        World w = World.rooted();
        w.signed(0, Due.NEXT, Due.next(Due.name(4)), 0, TOP);
        w.signed(Due.name(4), Due.NEXT, Due.next(Due.name(5, 6, 3, 2)), 0, TOP);
        Due.asked("the root; 5 and 1 are covered", w.x, q, Due.HOST, TrustResolver.TRUE, 15);
        w.signed(Due.name(5, 6, 3, 2), Due.NEXT, Due.next(Due.name(5, 7)), 0, TOP);
        Due.asked("5.6 by one below it; 5.6.7 and 5.6.1", w.x, q, Due.HOST, TrustResolver.TRUE, 15);
        w.x.drop(Due.name(4), Due.NEXT);
        Due.asked("5.6.1 not covered then", w.x, q, Due.HOST, TrustResolver.FALSE, 17);
        w.x.drop(Due.name(5, 6, 3, 2), Due.NEXT);
        w.signed(Due.name(5, 6, 7), Due.NEXT, Due.next(Due.name(5, 6, 7, 8)), 0, TOP);
        Due.asked("5.6.7 itself; 5.6.7.8 is told, not covered", w.x, q, Due.HOST, TrustResolver.FALSE, 14);
        w.x.drop(Due.name(5, 6, 7), Due.NEXT);
        w.signed(Due.name(5, 6, 7), Due.NEXT, Due.next(Due.name(5, 7)), 0, TOP);
        Due.asked("5.6.7 itself; both covered", w.x, q, Due.HOST, TrustResolver.TRUE, 15);
        w.x.drop(Due.name(5, 6, 7), Due.NEXT);
        w.signed(Due.name(5, 5), Due.NEXT, Due.next(Due.name(5, 6, 8)), 0, TOP);
        Due.asked("5 by one below it; 5.6 covered, 5.1 not", w.x, q, Due.HOST, TrustResolver.FALSE, 17);
    }

    private static void starTells() {
        World w = World.rooted();
        int star = Due.name(1);
        w.signed(0, Due.NEXT, Due.next(star), 0, TOP);
        Due.asked("7 not covered", w.x, Due.name(7), Due.HOST, TrustResolver.FALSE, 14);
        w.signed(Due.name(3), Due.NEXT, Due.next(Due.name(9)), 0, TOP);
        Due.asked("no NEXT of the star", w.x, Due.name(7), Due.HOST, TrustResolver.FALSE, 17);
        w.x.add(star, Due.NEXT, Due.next(Due.name(3), Due.KEY));
        Due.asked("unsigned", w.x, Due.name(7), Due.HOST, TrustResolver.FALSE, 17);
        w.sign(star, Due.NEXT, 0, TOP);
        Due.asked("tells another", w.x, Due.name(7), Due.HOST, TrustResolver.TRUE, 16);
        Due.asked("tells it", w.x, Due.name(7), Due.KEY, TrustResolver.FALSE, 17);
        w.x.add(star, Due.NEXT, Due.next(Due.name(3)));
        w.sign(star, Due.NEXT, 0, TOP);
        Due.asked("the least does not", w.x, Due.name(7), Due.KEY, TrustResolver.TRUE, 16);
    }

    /** 5 has no records itself, but 5.6 has: 5 is covered all the same. */
    private static void emptyBetween() {
        World w = World.rooted();
        w.signed(0, Due.NEXT, Due.next(Due.name(5, 6)), 0, TOP);
        w.signed(Due.name(5, 6), Due.NEXT, Due.next(0), 0, TOP);
        Due.asked("5", w.x, Due.name(5), Due.HOST, TrustResolver.TRUE, 15);
        Due.asked("5.5 and 5.1", w.x, Due.name(5, 5), Due.HOST, TrustResolver.TRUE, 15);
        Due.asked("NEXT of 5", w.x, Due.name(5), Due.NEXT, TrustResolver.TRUE, 15);
        Due.asked("NEXT of 5.6", w.x, Due.name(5, 6), Due.NEXT, TrustResolver.TRUE, 8);
        w.x.drop(0, Due.NEXT);
        w.signed(Due.name(1), Due.NEXT, Due.next(Due.name(5, 6)), 0, TOP);
        Due.asked("the star above 5 counts, not the one below", w.x, Due.name(5), Due.HOST, TrustResolver.TRUE, 16);
    }
}
