/** The edges of promises 11 to 14: what is told of the question that was asked last. */
public final class Edge11To14Test {
    private static final int[] NO_PLACE = {-1, -2, Integer.MIN_VALUE, 48, 49, Integer.MAX_VALUE};

    public static void main(String[] args) {
        reasonNoneApart();
        reasonWhenNothingWasAsked();
        answerAsItIsNow();
        answerNoneSuch();
        answerOtherwise();
        answerOfAFullSet();
        zoneNoneSuch();
        zonesOfThen();
        zonesOfEachEnd();
        figuresOfNow();
        keysThatCounted();
        figureNone();
        Due.end();
    }

    /** Promise 11, '(NONE apart)'. */
    private static void reasonNoneApart() {
        World w = Past.zones();
        int[][] questions = {{Past.HOST, 8}, {Past.STAR_HOST, 9}, {Past.ZONE, 14}, {0, 12}};
        for (int[] asked : questions) {
            w.x.ask(asked[0], Due.HOST);
            Due.is("reason", w.x.reason(), asked[1]);
            Due.is("no type", w.x.ask(0, 0), TrustResolver.NONE);
            Due.is("no name", w.x.ask(1, Due.HOST), TrustResolver.NONE);
            Due.is("reason still", w.x.reason(), asked[1]);
        }
    }

    /** Promise 11, '0 when nothing was asked', also when only refused questions were. */
    private static void reasonWhenNothingWasAsked() {
        TrustResolver x = new TrustResolver();
        Due.is("nothing", x.reason(), 0);
        x.ask(1, Due.HOST);
        x.ask(0, 6);
        Due.is("refused ones", x.reason(), 0);
        x.ask(0, Due.HOST);
        Due.is("one", x.reason(), 1);
    }

    /** Promise 12, 'as it is now (records may have come or gone since)'. */
    private static void answerAsItIsNow() {
        World w = Past.zones();
        w.x.ask(Past.HOST, Due.HOST);
        answers("as asked", w, -40, 40);
        w.x.add(Past.HOST, Due.HOST, Integer.MIN_VALUE);
        answers("one came before them", w, Integer.MIN_VALUE, -40, 40);
        w.x.add(Past.HOST, Due.HOST, Integer.MAX_VALUE);
        answers("one came behind them", w, Integer.MIN_VALUE, -40, 40, Integer.MAX_VALUE);
        w.x.add(Past.HOST, Due.CUT, 1);
        w.x.add(Due.name(5, 6), Due.HOST, 2);
        w.x.add(Due.name(5, 8), Due.HOST, 3);
        answers("others came beside them", w, Integer.MIN_VALUE, -40, 40, Integer.MAX_VALUE);
        w.x.drop(Past.HOST, Due.HOST);
        answers("all went", w);
        w.x.add(Past.HOST, Due.HOST, 5);
        answers("one came again", w, 5);
        w.x.tick(5000);
        w.x.drop(0, Due.KEY);
        answers("it would not be TRUE any more", w, 5);
        Due.is("the reason is of then", w.x.reason(), 8);
    }

    private static void answers(String when, World w, int... datas) {
        for (int k = 0; k < datas.length; k++) {
            Due.is(when + ": answer " + k, w.x.answer(k), datas[k]);
        }
        Due.is(when + ": none behind", w.x.answer(datas.length), 0);
        Due.is(when + ": none before", w.x.answer(-1), 0);
    }

    /** Promise 12, 'or when there is none such'. */
    private static void answerNoneSuch() {
        for (int k : NO_PLACE) {
            Twins.changesNothing("answer " + k, 0, x -> x.answer(k));
        }
        Twins.changesNothing("answer 2 of 2", 0, Past.ASKED, x -> x.answer(2));
        Twins.changesNothing("answer 1 of 2", 40, Past.ASKED, x -> x.answer(1));
        Twins.changesNothing("answer 1 of 1", 0, Past.FROM_STAR, x -> x.answer(1));
        Twins.changesNothing("answer 0 of 1", 66, Past.FROM_STAR, x -> x.answer(0));
        Twins.changesNothing("answer 0 of none", 0, Past.DROPPED, x -> x.answer(0));
    }

    /** Promise 12, 'when it was TRUE for 8 or 9; 0 otherwise': TRUE for 12, 15 and 16, too, is otherwise. */
    private static void answerOtherwise() {
        World w = Past.zones();
        int free = Due.name(8);
        Due.says("TRUE for 12", w.x, 0, Due.HOST, 12);
        w.x.add(0, Due.HOST, 5);
        answers("12", w);
        Due.says("TRUE for 15", w.x, free, Due.HOST, 15);
        w.x.add(free, Due.HOST, 5);
        answers("15", w);
        Due.says("FALSE for 11", w.x, free, Due.HOST, 11);
        answers("11", w);
        int star = w.sign(free, Due.HOST, 0, Past.TOP, 0);
        w.x.tick(3);
        Due.says("TRUE for 9", w.x, free, Due.HOST, 9);
        answers("9", w, 5);
        w.x.drop(Due.name(6), Due.NEXT);
        Due.says("FALSE for 10", w.x, free, Due.HOST, 10);
        answers("10", w);
        w.x.spoil(star, 1);
        w.x.drop(0, Due.NEXT);
        w.signed(Due.name(1), Due.NEXT, Due.next(0), 0, Past.TOP);
        Due.says("TRUE for 16", w.x, Due.name(9), Due.HOST, 16);
        w.x.add(Due.name(9), Due.HOST, 5);
        answers("16", w);
        w.x.drop(0, Due.KEY);
        w.x.ask(Past.HOST, Due.HOST);
        answers("2", w);
    }

    private static void answerOfAFullSet() {
        World w = World.rooted();
        for (int k = 1; k <= 47; k++) {
            w.x.add(0, Due.HOST, k);
        }
        w.sign(0, Due.HOST, 0, Past.TOP);
        Due.says("47 records", w.x, 0, Due.HOST, 8);
        Due.is("the last", w.x.answer(46), 47);
        Due.is("none behind", w.x.answer(47), 0);
        w.x.drop(0, Due.KEY);
        w.x.add(0, Due.HOST, 48);
        Due.is("the 48th", w.x.answer(47), 48);
        Due.is("none behind", w.x.answer(48), 0);
    }

    /** Promise 13, 'NONE when there is none such'. */
    private static void zoneNoneSuch() {
        for (int k : NO_PLACE) {
            Twins.changesNothing("zone " + k, TrustResolver.NONE, x -> x.zone(k));
        }
        Twins.changesNothing("zone 0 of none", TrustResolver.NONE, Past.NEW, x -> x.zone(0));
        Twins.changesNothing("zone 0 of none, UNKNOWN", TrustResolver.NONE, Past.UNKNOWN, x -> x.zone(0));
        Twins.changesNothing("zone 0 of 1", 0, Past.FROM_STAR, x -> x.zone(0));
        Twins.changesNothing("zone 1 of 1", TrustResolver.NONE, Past.FROM_STAR, x -> x.zone(1));
        Twins.changesNothing("zone 1 of 2", Past.ZONE, Past.ASKED, x -> x.zone(1));
        Twins.changesNothing("zone 2 of 2", TrustResolver.NONE, Past.ASKED, x -> x.zone(2));
    }

    private static void zonesOfThen() {
        World w = Past.zones();
        w.x.ask(Past.HOST, Due.HOST);
        w.x.drop(Past.ZONE, Due.CUT);
        w.x.drop(Past.ZONE, Due.KEY);
        w.x.anchor(Past.HOST, 0);
        Due.is("the anchor of then", w.x.zone(0), 0);
        Due.is("the zone of then", w.x.zone(1), Past.ZONE);
        w.x.ask(Past.HOST, Due.HOST);
        Due.is("the anchor of now", w.x.zone(0), Past.HOST);
        Due.is("no other one", w.x.zone(1), TrustResolver.NONE);
    }

    /** The greatest way, five zones, and shorter ones behind it; how far it goes at each way to end. */
    private static void zonesOfEachEnd() {
        int[] chain = {0, Due.name(9), Due.name(9, 9), Due.name(9, 9, 9), Due.name(9, 9, 9, 9)};
        World w = World.rooted();
        for (int depth = 1; depth <= 4; depth++) {
            w.zoneBelow(chain[depth - 1], Past.TOP + depth - 1, chain[depth], Past.TOP + depth);
        }
        for (int depth = 4; depth >= 0; depth--) {
            w.x.ask(chain[depth], Due.KEY);
            Due.is("reason", w.x.reason(), 8);
            for (int k = 0; k <= 5; k++) {
                Due.is("zone " + k + " of " + depth, w.x.zone(k), k <= depth ? chain[k] : TrustResolver.NONE);
            }
        }
        w.x.drop(chain[3], Due.KEY);
        zonesUpTo("without keys", w, chain, 2, 3);
        w.x.add(chain[3], Due.KEY, 99);
        zonesUpTo("with other keys", w, chain, 3, 3);
        w.x.add(chain[2], Due.SEAL, 99);
        zonesUpTo("with seals that are not plain", w, chain, 5, 1);
        w.x.drop(chain[2], Due.SEAL);
        zonesUpTo("without seals", w, chain, 7, 1);
    }

    private static void zonesUpTo(String what, World w, int[] chain, int reason, int last) {
        Due.says(what, w.x, chain[4], Due.KEY, reason);
        Due.is(what + ": last zone", w.x.zone(last), chain[last]);
        Due.is(what + ": none behind", w.x.zone(last + 1), TrustResolver.NONE);
    }

    /** Promise 14, 0 to 2, as they are now: none, some, all that there is room for. */
    private static void figuresOfNow() {
        int[][] due = {{0, 0, 0}, {11, 7, 0}, {11, 7, 0}, {0, 0, 0}, {6, 7, 4}, {48, 32, 0}};
        for (Past past : Past.values()) {
            for (int what = 0; what <= 2; what++) {
                int figure = due[past.ordinal()][what];
                int asked = what;
                Twins.changesNothing("figure " + what, figure, past, x -> x.figure(asked));
            }
        }
    }

    /** Promise 14, 3: '0 if it did not come to that there, or nothing was asked'. */
    private static void keysThatCounted() {
        World w = Past.zones();
        Due.is("nothing was asked", w.x.figure(3), 0);
        keysCounted("the root's", w, 0, 12, 1);
        keysCounted("the lower zone's", w, Past.HOST, 8, 3);
        w.x.add(Past.ZONE, Due.KEY, 25);
        Due.is("as many as then", w.x.figure(3), 3);
        keysCounted("not plain", w, Past.HOST, 4, 0);
        w.sign(Past.ZONE, Due.KEY, Past.ZONE, 22);
        w.x.tick(3);
        keysCounted("four of them", w, Past.HOST, 8, 4);
        w.x.drop(Past.ZONE, Due.KEY);
        Due.is("as many as then", w.x.figure(3), 4);
        keysCounted("empty", w, Past.HOST, 2, 0);
        w.holdKeys(Past.ZONE, 23);
        keysCounted("none sealed", w, Past.HOST, 3, 0);
        w.x.add(Past.ZONE, Due.SEAL, 0);
        keysCounted("it stays in the root", w, Past.HOST, 5, 1);
        w.x.drop(Past.ZONE, Due.SEAL);
        keysCounted("it stays in the root", w, Past.HOST, 7, 1);
        w.x.tick(1000);
        keysCounted("out of time in the root", w, Past.HOST, 4, 0);
        World apart = new World();
        apart.holdKeys(Past.ZONE, 22);
        apart.x.anchor(Past.ZONE, apart.x.seal(Past.ZONE, 22));
        keysCounted("the anchor's", apart, Past.ZONE, 14, 1);
        keysCounted("UNKNOWN", apart, 0, 1, 0);
    }

    private static void keysCounted(String what, World w, int name, int reason, int keys) {
        Due.says(what, w.x, name, Due.HOST, reason);
        Due.is(what + ": keys", w.x.figure(3), keys);
    }

    /** Promise 14, 'NONE for another what'. */
    private static void figureNone() {
        int[] wrong = {-1, 4, 5, Integer.MIN_VALUE, Integer.MAX_VALUE};
        for (int what : wrong) {
            Twins.changesNothing("figure " + what, TrustResolver.NONE, x -> x.figure(what));
        }
    }
}
