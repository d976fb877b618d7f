/** The edges of promise 3. */
public final class Edge03DropTest {
    public static void main(String[] args) {
        signaturesStay();
        signaturesStayWhenFull();
        perhapsNone();
        allThatItHad();
        none();
        Due.end();
    }

    /** '(its signatures stay)': they keep their numbers, and are good when the set is what it was. */
    private static void signaturesStay() {
        World w = Past.zones();
        int before = w.x.figure(1);
        Due.is("had", w.x.drop(Past.HOST, Due.HOST), 2);
        Due.is("signatures", w.x.figure(1), before);
        Due.is("can be spoiled by 0", w.x.spoil(before - 1, 0), true);
        Due.says("empty", w.x, Past.HOST, Due.HOST, 14);
        Due.is("cannot be signed", w.x.sign(Past.HOST, Due.HOST, Past.ZONE, 24, 2), TrustResolver.NONE);
        w.x.add(Past.HOST, Due.HOST, -40);
        Due.says("half", w.x, Past.HOST, Due.HOST, 11);
        w.x.add(Past.HOST, Due.HOST, 40);
        Due.says("as it was", w.x, Past.HOST, Due.HOST, 8);
        Due.is("the next number", w.x.sign(Past.HOST, Due.HOST, Past.ZONE, 24, 2), before);
    }

    private static void signaturesStayWhenFull() {
        World w = Past.full();
        for (int type = Due.HOST; type <= Due.CUT; type++) {
            w.x.drop(Past.LAST, type);
        }
        Due.is("32 still", w.x.figure(1), 32);
        Due.is("no room for one", w.x.sign(0, Due.KEY, 0, Past.TOP, 0), TrustResolver.FULL);
    }

    /** 'How many it had (perhaps none)'. */
    private static void perhapsNone() {
        Twins.changesNothing("a set that was never there", 0, x -> x.drop(Due.name(26), Due.HOST));
        Twins.changesNothing("another type of an owner", 0, x -> x.drop(Past.HOST, Due.SEAL));
        Twins.changesNothing("a set that is dropped", 0, Past.DROPPED, x -> x.drop(Past.HOST, Due.HOST));
    }

    private static void allThatItHad() {
        World w = Past.full();
        int records = 48;
        int[] owners = {0, Past.ZONE, Past.HOST, Past.STAR_HOST, Due.name(6), Past.LAST};
        for (int owner : owners) {
            for (int type = Due.HOST; type <= Due.NEXT; type++) {
                int had = w.x.drop(owner, type);
                records -= had;
                Due.is("records", w.x.figure(0), records);
                Due.is("none then", w.x.drop(owner, type), 0);
            }
        }
        Due.is("all gone", records, 0);
    }

    /** 'NONE when owner is no name, or type not 1 .. 5'. */
    private static void none() {
        Twins.changesNothing("no name", TrustResolver.NONE, x -> x.drop(1, Due.HOST));
        for (int type : Due.NO_TYPES) {
            Twins.changesNothing("type " + type, TrustResolver.NONE, x -> x.drop(Past.HOST, type));
        }
        TrustResolver x = Past.ASKED.made();
        Due.is("type 1", x.drop(Past.HOST, 1), 2);
        Due.is("type 5", x.drop(0, 5), 1);
    }
}
