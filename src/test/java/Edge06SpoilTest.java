/** The edges of promise 6. */
public final class Edge06SpoilTest {
    public static void main(String[] args) {
        wrapping();
        toAnotherMark();
        noSuchSignature();
        whichAreThere();
        Due.end();
    }

    /** 'A mark becomes more greater, wrapping': steps that come round to 2^32 leave it as it was. */
    private static void wrapping() {
        int max = Integer.MAX_VALUE;
        int min = Integer.MIN_VALUE;
        int[][] rounds = {{max, max, 2}, {min, min}, {min, max, 1}, {1 << 30, 1 << 30, 1 << 30, 1 << 30}, {-1, 1}, {0}};
        for (int[] steps : rounds) {
            World w = World.rooted();
            for (int k = 0; k < steps.length; k++) {
                Due.is("spoil", w.x.spoil(0, steps[k]), true);
                boolean round = k == steps.length - 1;
                Due.says("step " + k + " of " + steps.length, w.x, 0, Due.KEY, round ? 8 : 4);
            }
        }
    }

    /** From one digest to another one, whether that is greater or less, and also over the end of int. */
    private static void toAnotherMark() {
        for (int other = 1; other <= 20; other++) {
            World w = World.rooted();
            w.x.add(0, Due.KEY, 100 + other);
            int was = Due.digest(11, 0, Due.KEY, 0, 0, 1000, 0, 11);
            int is = Due.digest(11, 0, Due.KEY, 0, 0, 1000, 0, 11, 100 + other);
            w.x.spoil(0, is - was);
            Due.says("to the mark of another set", w.x, 0, Due.KEY, 8);
            w.x.spoil(0, Integer.MIN_VALUE);
            Due.says("half round", w.x, 0, Due.KEY, 4);
            w.x.spoil(0, Integer.MIN_VALUE);
            Due.says("round", w.x, 0, Due.KEY, 8);
        }
    }

    /** 'false when there is no such signature'. */
    private static void noSuchSignature() {
        int[] never = {-1, -2, 32, 33, Integer.MIN_VALUE, Integer.MAX_VALUE};
        for (int number : never) {
            Twins.changesNothing("spoil " + number, x -> x.spoil(number, 1));
            Twins.changesNothing("spoil by 0, " + number, x -> x.spoil(number, 0));
        }
        for (Past past : Past.values()) {
            int count = past.made().figure(1);
            Twins.changesNothing("spoil the one behind the last", 0, past, x -> x.spoil(count, 1) ? 1 : 0);
        }
    }

    private static void whichAreThere() {
        TrustResolver x = new TrustResolver();
        x.add(0, Due.KEY, 1);
        for (int count = 0; count <= 32; count++) {
            Due.is("not yet " + count, x.spoil(count, 1), false);
            if (count > 0) {
                Due.is("the first of " + count, x.spoil(0, 1), true);
                Due.is("the last of " + count, x.spoil(count - 1, 1), true);
            }
            x.sign(0, Due.KEY, 0, 1, 0);
        }
        x.drop(0, Due.KEY);
        Due.is("its set is dropped", x.spoil(31, 1), true);
    }
}
