/** The edges of 'TO ASK': each way to end, beside what ends in another way by one thing alone. */
public final class EdgeReasonsTest {
    private static final int TOP = Past.TOP;
    private static final int ZONE = Due.name(5);
    private static final int HOST = Due.name(5, 7);

    public static void main(String[] args) {
        reason1();
        reason2();
        reason3();
        reason4();
        reason5();
        reasons6And7();
        cutsThatDoNotCount();
        cutAtTheNameItself();
        reason8();
        reasons9And10();
        firstGoodOne();
        reason11();
        reasons12And13();
        reason14();
        reason15();
        reasons16And17();
        deepestKnown();
        Due.end();
    }

    private static void says(String what, World w, int name, int type, int reason) {
        Due.says(what, w.x, name, type, reason);
    }

    /** 'the deepest anchor that is q or above it; there is none: UNKNOWN, reason 1'. */
    private static void reason1() {
        World w = new World();
        says("no anchors", w, 0, Due.HOST, 1);
        w.x.anchor(HOST, 0);
        says("an anchor below", w, ZONE, Due.HOST, 1);
        says("an anchor beside", w, Due.name(5, 8), Due.HOST, 1);
        Due.is("no zone", w.x.zone(0), TrustResolver.NONE);
        says("the anchor itself", w, HOST, Due.HOST, 2);
        says("below the anchor", w, Due.name(5, 7, 1, 1), Due.HOST, 2);
        w.x.anchor(0, 0);
        says("the root is above all", w, Due.name(5, 8), Due.HOST, 2);
        Due.is("from the root", w.x.zone(0), 0);
        w.x.ask(HOST, Due.HOST);
        Due.is("from the deepest", w.x.zone(0), HOST);
    }

    /** 'The set of KEY of z is empty'. */
    private static void reason2() {
        World w = World.rooted();
        says("a key", w, 0, Due.KEY, 8);
        w.x.drop(0, Due.KEY);
        says("dropped since", w, 0, Due.KEY, 2);
        w.x.add(ZONE, Due.KEY, TOP);
        w.x.add(0, Due.HOST, TOP);
        says("other sets", w, 0, Due.KEY, 2);
        w.x.add(0, Due.KEY, TOP + 1);
        says("a key that is not sealed", w, 0, Due.KEY, 3);
    }

    /** 'None of its keys has a seal for z that is trusted'. */
    private static void reason3() {
        World w = World.rooted();
        int seal = w.x.seal(0, TOP);
        int[] beside = {seal - 1, seal + 1, 0, Integer.MAX_VALUE, w.x.seal(ZONE, TOP)};
        for (int digest : beside) {
            w.x.anchor(0, digest);
            says("digest " + digest, w, 0, Due.KEY, 3);
            Due.is("no keys counted", w.x.figure(3), 0);
        }
        w.x.anchor(0, w.x.seal(0, 1000000));
        w.x.add(0, Due.KEY, 1000000);
        says("the last of two keys", w, 0, Due.KEY, 4);
        w.x.anchor(0, seal);
        says("the first of two keys", w, 0, Due.KEY, 4);
    }

    /** 'It is not plain for z and those keys of it whose seals are trusted'. */
    private static void reason4() {
        World w = new World();
        w.x.add(ZONE, Due.KEY, 22);
        w.holdKeys(ZONE, 23);
        w.x.anchor(ZONE, w.x.seal(ZONE, 22));
        says("signed by a key that is not sealed", w, ZONE, Due.KEY, 4);
        w.sign(ZONE, Due.KEY, ZONE, 22, 0);
        says("by the sealed one, as a star's", w, ZONE, Due.KEY, 4);
        Due.is("no keys counted", w.x.figure(3), 0);
        w.sign(ZONE, Due.KEY, ZONE, 22);
        says("by the sealed one", w, ZONE, Due.KEY, 8);
        Due.is("all keys count", w.x.figure(3), 2);
        w.signed(HOST, Due.HOST, 1, ZONE, 23);
        says("then the other one's signatures are good too", w, HOST, Due.HOST, 8);
    }

    /** 'Its set of SEAL is not empty: if that is plain, n is the zone ...; if not: FALSE, 5'. */
    private static void reason5() {
        World w = World.rooted();
        w.x.add(ZONE, Due.CUT, 0);
        w.x.add(ZONE, Due.SEAL, 0);
        says("not signed", w, HOST, Due.HOST, 5);
        Due.is("not gone into", w.x.zone(1), TrustResolver.NONE);
        int number = w.sign(ZONE, Due.SEAL, 0, TOP);
        says("plain, but there are no keys", w, HOST, Due.HOST, 2);
        Due.is("gone into", w.x.zone(1), ZONE);
        Due.is("no keys counted there", w.x.figure(3), 0);
        w.x.spoil(number, 1);
        says("spoiled", w, HOST, Due.HOST, 5);
        Due.is("the root's keys", w.x.figure(3), 1);
        w.x.drop(ZONE, Due.SEAL);
        says("empty", w, HOST, Due.HOST, 7);
    }

    /** 'the least data of it tells CUT and not SEAL: OPEN, 6; otherwise FALSE, 7', for all sums. */
    private static void reasons6And7() {
        for (int types = 0; types <= 31; types++) {
            World w = World.rooted();
            w.x.add(ZONE, Due.CUT, 0);
            says("no NEXT", w, HOST, Due.HOST, 7);
            w.x.add(ZONE, Due.NEXT, types << 20);
            says("a NEXT that is not plain", w, HOST, Due.HOST, 7);
            w.sign(ZONE, Due.NEXT, 0, TOP);
            boolean open = (types & 2) != 0 && (types & 4) == 0;
            says("types " + types, w, HOST, Due.HOST, open ? 6 : 7);
            w.x.add(ZONE, Due.NEXT, 31 << 20 | Due.name(27));
            w.sign(ZONE, Due.NEXT, 0, TOP);
            says("types " + types + ", and greater data", w, HOST, Due.HOST, open ? 6 : 7);
        }
    }

    /** 'of least depth, below z, that is q or above it, and has a set of CUT'. */
    private static void cutsThatDoNotCount() {
        World w = World.rooted();
        w.signed(HOST, Due.HOST, 1, 0, TOP);
        int[] elsewhere = {0, Due.name(5, 6), Due.name(5, 7, 1), Due.name(6), Due.name(7)};
        for (int owner : elsewhere) {
            w.x.add(owner, Due.CUT, 0);
        }
        says("cuts at the zone, beside and below", w, HOST, Due.HOST, 8);
        w.x.add(HOST, Due.CUT, 0);
        says("at the name", w, HOST, Due.HOST, 7);
        w.x.add(ZONE, Due.CUT, 0);
        w.signed(HOST, Due.NEXT, Due.next(0, Due.CUT), 0, TOP);
        says("at the name above it, which comes first", w, HOST, Due.HOST, 7);
        w.x.drop(ZONE, Due.CUT);
        says("dropped since: the name itself", w, HOST, Due.HOST, 6);
        w.x.drop(HOST, Due.CUT);
        says("none is left", w, HOST, Due.HOST, 8);
    }

    /** '(but not q itself when t is SEAL)'. */
    private static void cutAtTheNameItself() {
        for (int type = Due.HOST; type <= Due.NEXT; type++) {
            World w = World.rooted();
            w.x.add(ZONE, Due.CUT, 0);
            boolean seal = type == Due.SEAL;
            says("type " + type, w, ZONE, type, seal ? 14 : 7);
            says("type " + type + " below it", w, HOST, type, 7);
            w.x.add(ZONE, Due.SEAL, 0);
            says("type " + type + ", with seals", w, ZONE, type, seal ? 11 : 5);
            says("type " + type + " below it, with seals", w, HOST, type, 5);
            w.sign(ZONE, Due.SEAL, 0, TOP);
            says("type " + type + ", with plain seals", w, ZONE, type, seal ? 8 : 2);
            says("type " + type + " below it, with plain seals", w, HOST, type, 2);
        }
    }

    /** 'The set of q and t is not empty: it is plain: TRUE, 8', for each type, at the zone and below. */
    private static void reason8() {
        for (int type = Due.HOST; type <= Due.NEXT; type++) {
            World w = World.rooted();
            int host = Due.name(8);
            int data = type == Due.KEY ? TOP : Due.name(1);
            w.x.add(0, type, data);
            w.sign(0, type, 0, TOP);
            says("type " + type + " of the zone", w, 0, type, 8);
            w.x.add(host, type, data);
            says("type " + type + " below, not signed", w, host, type, type == Due.CUT ? 7 : 11);
            w.sign(host, type, 0, TOP);
            says("type " + type + " below, signed", w, host, type, type == Due.CUT ? 7 : 8);
        }
    }

    /** 'the first one of these with the labels l: if the name of the first l + 1 labels of q is covered'. */
    private static void reasons9And10() {
        int q = Due.name(9, 8, 7, 6);
        int[] chain = {0, Due.name(9), Due.name(9, 8), Due.name(9, 8, 7), q};
        for (int labels = 0; labels <= 3; labels++) {
            for (int covered = 1; covered <= 4; covered++) {
                World w = World.rooted();
                w.x.add(q, Due.HOST, 1);
                w.sign(q, Due.HOST, 0, TOP, labels);
                int behind = Due.nameAfter(chain[covered]);
                w.signed(chain[covered - 1], Due.NEXT, Due.next(behind), 0, TOP);
                boolean holds = covered == labels + 1;
                says(labels + " labels, covered " + covered, w, q, Due.HOST, holds ? 9 : 10);
            }
        }
    }

    /** 'the first one of these': of the good ones by their numbers, from 0, as they are when it is asked. */
    private static void firstGoodOne() {
        World w = new World();
        int q = Due.name(9, 8, 7);
        w.x.add(q, Due.HOST, 1);
        w.sign(q, Due.HOST, 0, TOP, 2);
        w.sign(q, Due.HOST, 0, TOP, 1);
        w.holdKeys(0, TOP);
        w.x.anchor(0, w.x.seal(0, TOP));
        w.signed(Due.name(9), Due.NEXT, Due.next(Due.name(9, 8, 1)), 0, TOP);
        says("number 0, with 9.8.7", w, q, Due.HOST, 10);
        w.x.spoil(0, 1);
        says("number 1, with 9.8", w, q, Due.HOST, 9);
        w.x.spoil(0, -1);
        says("number 0 again", w, q, Due.HOST, 10);
        w.sign(q, Due.HOST, 0, TOP);
        says("a plain one goes before all", w, q, Due.HOST, 8);
    }

    private static void reason11() {
        World w = World.rooted();
        w.x.add(HOST, Due.HOST, 1);
        w.signed(HOST, Due.KEY, 1, 0, TOP);
        w.signed(ZONE, Due.HOST, 1, 0, TOP);
        says("signatures of other sets", w, HOST, Due.HOST, 11);
        int star = w.sign(HOST, Due.HOST, 0, TOP, 1);
        says("a star's, not covered", w, HOST, Due.HOST, 10);
        w.x.spoil(star, 1);
        says("which is spoiled", w, HOST, Due.HOST, 11);
        w.x.drop(HOST, Due.HOST);
        says("empty", w, HOST, Due.HOST, 14);
    }

    /** 'It is empty, and q has a set of NEXT that is plain: TRUE, 12, if its least data does not tell t'. */
    private static void reasons12And13() {
        for (int types = 0; types <= 31; types++) {
            World w = World.rooted();
            w.signed(HOST, Due.NEXT, types << 20, 0, TOP);
            w.signed(0, Due.NEXT, types << 20, 0, TOP);
            for (int type = Due.HOST; type <= Due.SEAL; type++) {
                int due = (types >> (type - 1) & 1) == 0 ? 12 : 13;
                says("types " + types + ", type " + type, w, HOST, type, due);
                says("types " + types + ", type " + type + " of the zone", w, 0, type, due);
            }
            says("type KEY, types " + types, w, HOST, Due.KEY, (types & 8) == 0 ? 12 : 13);
        }
    }

    /** 'Otherwise, if q is z: FALSE, 14'; 'is not covered: FALSE, 14'. */
    private static void reason14() {
        World w = World.rooted();
        says("the zone", w, 0, Due.HOST, 14);
        w.x.add(0, Due.NEXT, 0);
        says("with a NEXT that is not plain", w, 0, Due.HOST, 14);
        says("below, not covered", w, ZONE, Due.HOST, 14);
        w.sign(0, Due.NEXT, 0, TOP);
        says("with a plain one", w, 0, Due.HOST, 12);
        says("below, covered", w, ZONE, Due.HOST, 15);
    }

    private static void reason15() {
        World w = World.rooted();
        w.signed(0, Due.NEXT, Due.next(Due.name(1, 1)), 0, TOP);
        w.signed(Due.name(1, 1), Due.NEXT, Due.next(0), 0, TOP);
        says("the star is covered, 1.1 being below it", w, ZONE, Due.HOST, 15);
        says("the star itself is asked for", w, Due.name(1), Due.HOST, 15);
        w.x.drop(0, Due.NEXT);
        w.signed(0, Due.NEXT, Due.next(Due.name(1)), 0, TOP);
        says("the star is told, not covered", w, ZONE, Due.HOST, 17);
    }

    /** 'The star of c has a plain set of NEXT whose least data does not tell t: TRUE, 16. Otherwise 17'. */
    private static void reasons16And17() {
        int star = Due.name(1);
        for (int types = 0; types <= 31; types++) {
            World w = World.rooted();
            w.signed(Due.name(2), Due.NEXT, Due.next(0), 0, TOP);
            says("the star has no NEXT", w, ZONE, Due.HOST, 17);
            w.x.add(star, Due.NEXT, types << 20);
            says("the star's NEXT is not plain", w, ZONE, Due.HOST, 17);
            w.sign(star, Due.NEXT, 0, TOP);
            for (int type = Due.HOST; type <= Due.NEXT; type++) {
                boolean told = (types >> (type - 1) & 1) != 0;
                says("types " + types + ", type " + type, w, ZONE, type, told ? 17 : 16);
            }
        }
    }

    /**
     * 'the deepest name above q that is z, or below it and known': 9 is, by its star, which is told and
     * not covered (16); the stars of deeper names are covered (15), so that a deeper c is seen.
     */
    private static void deepestKnown() {
        int[] deeper = {Due.name(9, 9), Due.name(9, 9, 2), Due.name(9, 9, 2, 2), Due.name(9, 9, 9), Due.name(9, 9, 9, 2)};
        int[] other = {Due.name(9), Due.name(9, 8), Due.name(9, 8, 9, 9), Due.name(9, 10), Due.name(10, 9, 9), 0};
        int q = Due.name(9, 9, 9, 9);
        for (int owner : deeper) {
            World w = starOf9();
            w.x.add(owner, Due.NEXT, Due.next(owner));
            says("a NEXT of " + owner + " that is not plain", w, q, Due.HOST, 16);
            w.sign(owner, Due.NEXT, 0, TOP);
            says("a NEXT of " + owner, w, q, Due.HOST, 15);
        }
        for (int owner : other) {
            World w = starOf9();
            w.signed(owner, Due.NEXT, Due.next(owner), 0, TOP);
            says("a NEXT of " + owner, w, q, Due.HOST, owner == 0 ? 15 : 16);
        }
        World w = starOf9();
        w.signed(Due.name(9, 9, 2), Due.NEXT, Due.next(0), 0, TOP);
        says("q is known by what is below it, but c is above q", w, Due.name(9, 9), Due.HOST, 16);
    }

    private static World starOf9() {
        World w = World.rooted();
        w.signed(Due.name(9, 1), Due.NEXT, Due.next(0), 0, TOP);
        return w;
    }
}
