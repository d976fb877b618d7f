import java.util.ArrayList;
import java.util.List;
import java.util.function.Predicate;
import java.util.function.ToIntFunction;

/**
 * Two objects with the same past, of which one is given a call that is refused: it answers as due,
 * and nothing that later calls show differs from what they show of the other one.
 */
final class Twins {
    private static final int[] NAMES = {
        0, Past.ZONE, Past.HOST, Past.STAR_HOST, Past.LAST, Due.name(6), Due.name(5, 7, 3), Due.name(20, 4, 1)
    };

    private Twins() {}

    /** A call that answers false, as 0. */
    static void changesNothing(String call, Predicate<TrustResolver> made) {
        changesNothing(call, 0, x -> made.test(x) ? 1 : 0);
    }

    static void changesNothing(String call, int due, ToIntFunction<TrustResolver> made) {
        for (Past past : Past.values()) {
            changesNothing(call, due, past, made);
        }
    }

    static void changesNothing(String call, int due, Past past, ToIntFunction<TrustResolver> made) {
        TrustResolver given = past.made();
        TrustResolver spared = past.made();
        Due.is(call + " after " + past, made.applyAsInt(given), due);
        List<Integer> later = shown(given);
        List<Integer> otherwise = shown(spared);
        for (int k = 0; k < otherwise.size(); k++) {
            Due.is("call " + k + " behind " + call + " after " + past, later.get(k), otherwise.get(k));
        }
    }

    /** Some 350 calls whose answers show all that an object holds. */
    private static List<Integer> shown(TrustResolver x) {
        List<Integer> seen = new ArrayList<>();
        lastAsked(x, seen);
        for (int name : NAMES) {
            for (int type = Due.HOST; type <= Due.NEXT; type++) {
                seen.add(x.ask(name, type));
                seen.add(x.reason());
                seen.add(x.answer(0));
                seen.add(x.zone(0));
                seen.add(x.zone(1));
                seen.add(x.figure(3));
            }
        }
        timesOfNewOnes(x, seen);
        held(x, seen);
        return seen;
    }

    private static void lastAsked(TrustResolver x, List<Integer> seen) {
        seen.add(x.reason());
        for (int k = 0; k <= 3; k++) {
            seen.add(x.answer(k));
            seen.add(x.zone(k));
            seen.add(x.figure(k));
        }
    }

    /** The window of the pasts is 3 to 20: what is signed now is asked for at both of its ends. */
    private static void timesOfNewOnes(TrustResolver x, List<Integer> seen) {
        seen.add(x.add(0, Due.KEY, Past.TOP));
        seen.add(x.sign(0, Due.KEY, 0, Past.TOP, 0));
        seen.add(x.anchor(0, x.seal(0, Past.TOP)));
        seen.add(x.add(Due.name(6), Due.HOST, 1));
        seen.add(x.sign(Due.name(6), Due.HOST, 0, Past.TOP, 1));
        int[] ticks = {2, 1, 17, 1};
        for (int n : ticks) {
            seen.add(x.tick(n));
            seen.add(x.ask(Due.name(6), Due.HOST));
            seen.add(x.reason());
        }
    }

    private static void held(TrustResolver x, List<Integer> seen) {
        for (int k = 0; k <= 32; k++) {
            seen.add(x.spoil(k, 0) ? 1 : 0);
        }
        for (int name : NAMES) {
            for (int type = Due.HOST; type <= Due.NEXT; type++) {
                seen.add(x.drop(name, type));
            }
        }
        seen.add(x.figure(0));
        seen.add(x.anchor(Due.name(20, 4), 0));
        seen.add(x.anchor(Due.name(21), 0));
    }
}
