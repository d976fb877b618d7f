/** The edges of promise 10: refused questions, after which what was asked last stays. */
public final class Edge10AskTest {
    public static void main(String[] args) {
        noName();
        noType();
        whatWasAskedLastStays();
        namesAndTypesAtTheirEnds();
        askedAgain();
        formerKeysDoNotCount();
        formerDigestsAreNotTrusted();
        Due.end();
    }

    /** 'NONE when name is no name'. */
    private static void noName() {
        Twins.changesNothing("a gap", TrustResolver.NONE, x -> x.ask(1, Due.HOST));
        Twins.changesNothing("below 0", TrustResolver.NONE, x -> x.ask(-1, Due.KEY));
        Twins.changesNothing("too large", TrustResolver.NONE, x -> x.ask(1 << 20, Due.NEXT));
        Twins.changesNothing("neither name nor type", TrustResolver.NONE, x -> x.ask(28 << 15, 6));
    }

    /** 'or type not 1 .. 5'. */
    private static void noType() {
        for (int type : Due.NO_TYPES) {
            Twins.changesNothing("type " + type, TrustResolver.NONE, x -> x.ask(Past.HOST, type));
            Twins.changesNothing("type " + type + " of the root", TrustResolver.NONE, x -> x.ask(0, type));
        }
    }

    /** '(what was asked last stays)': the set whose data are told, too, and also what comes to it since. */
    private static void whatWasAskedLastStays() {
        World w = Past.zones();
        Due.says("asked", w.x, Past.HOST, Due.HOST, 8);
        Due.is("refused", w.x.ask(Past.ZONE, 6), TrustResolver.NONE);
        Due.is("refused", w.x.ask(Past.HOST | 31, Due.KEY), TrustResolver.NONE);
        w.x.add(Past.HOST, Due.HOST, 0);
        int[] datas = {-40, 0, 40, 0};
        for (int k = 0; k < datas.length; k++) {
            Due.is("answer " + k, w.x.answer(k), datas[k]);
        }
        Due.is("reason", w.x.reason(), 8);
        Due.is("zone", w.x.zone(1), Past.ZONE);
        Due.is("keys", w.x.figure(3), 3);
    }

    private static void namesAndTypesAtTheirEnds() {
        int[] names = {0, Due.name(1), Due.name(27), Due.name(1, 1, 1, 1), Past.LAST};
        for (int name : names) {
            for (int type = Due.HOST; type <= Due.NEXT; type++) {
                TrustResolver x = new TrustResolver();
                Due.says("no anchor", x, name, type, 1);
                x.anchor(0, 0);
                Due.says("no keys", x, name, type, 2);
            }
        }
    }

    /** A question leaves nothing behind that another one could see. */
    private static void askedAgain() {
        World w = Past.zones();
        int[][] questions = {{Past.HOST, Due.HOST, 8}, {Past.STAR_HOST, Due.HOST, 9}, {Past.ZONE, Due.HOST, 14},
            {0, Due.HOST, 12}, {Past.ZONE, Due.CUT, 11}, {Past.ZONE, Due.SEAL, 8}};
        for (int[] before : questions) {
            for (int[] asked : questions) {
                w.x.ask(before[0], before[1]);
                Due.says("behind " + before[0], w.x, asked[0], asked[1], asked[2]);
            }
        }
    }

    /** All keys of 8 count there; of the keys of 9, which are the same, only one is sealed, but not signing. */
    private static void formerKeysDoNotCount() {
        World w = new World();
        w.holdKeys(Due.name(8), 22, 23, 24);
        w.x.anchor(Due.name(8), w.x.seal(Due.name(8), 22));
        w.x.add(Due.name(9), Due.KEY, 22);
        w.holdKeys(Due.name(9), 23, 24);
        w.sign(Due.name(9), Due.KEY, Due.name(9), 24);
        w.x.anchor(Due.name(9), w.x.seal(Due.name(9), 22));
        Due.says("keys that hold", w.x, Due.name(8), Due.KEY, 8);
        Due.says("the same keys elsewhere", w.x, Due.name(9), Due.KEY, 4);
    }

    /** Two seals of 5 were trusted on the way; another anchor has but one digest, and that of no key. */
    private static void formerDigestsAreNotTrusted() {
        int other = Due.name(9);
        for (int key = 33; key <= 40; key++) {
            World w = World.rooted();
            w.x.add(Past.ZONE, Due.CUT, 1);
            w.x.add(Past.ZONE, Due.SEAL, w.x.seal(other, key));
            w.signed(Past.ZONE, Due.SEAL, w.x.seal(Past.ZONE, 22), 0, Past.TOP);
            w.holdKeys(Past.ZONE, 22);
            w.holdKeys(other, key);
            w.x.anchor(other, 0);
            Due.says("by two seals", w.x, Past.ZONE, Due.KEY, 8);
            Due.says("by a digest of no key", w.x, other, Due.KEY, 3);
        }
    }
}
