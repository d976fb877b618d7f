import java.util.ArrayList;
import java.util.Arrays;
import java.util.List;
import java.util.Random;

/** Many made-up runs of calls, on the program and on the model beside it: no answer may differ. */
public final class ModelTest {
    private static final int RUNS = 3000;
    private static final int[] KEYS = {11, 12, 22, 23, 33, 1000000};

    private final Random random;
    private final TrustResolver x = new TrustResolver();
    private final Model model = new Model();
    private final List<Integer> names = new ArrayList<>();
    private final int[] reasons;
    private int lastZone = 0;
    private int lastKey = KEYS[0];
    private int calls = 0;

    private ModelTest(long seed, int[] reasons) {
        this.random = new Random(seed);
        this.reasons = reasons;
    }

    public static void main(String[] args) {
        int[] reasons = new int[18];
        for (int run = 0; run < RUNS; run++) {
            new ModelTest(run, reasons).run();
        }
        for (int reason = 1; reason < reasons.length; reason++) {
            Due.is("reason " + reason + " came often, " + Arrays.toString(reasons), reasons[reason] >= 200, true);
        }
        Due.end();
    }

    private void run() {
        pickNames();
        if (random.nextInt(10) > 0) {
            buildZones();
        }
        for (int k = random.nextInt(4); k > 0; k--) {
            addBelowLastZone();
        }
        int most = 100 + random.nextInt(350);
        while (calls < most) {
            oneCall();
        }
    }

    /** Few labels, so that names meet: above, below and beside one another. */
    private void pickNames() {
        names.add(0);
        for (int k = 0; k < 9; k++) {
            int upper = pick();
            int depth = World.depth(upper);
            int label = random.nextInt(4) == 0 ? 1 : random.nextInt(20) == 0 ? 27 : 2 + random.nextInt(4);
            names.add(depth == 4 ? upper : upper | label << (15 - 5 * depth));
        }
    }

    private int pick() {
        return names.get(random.nextInt(names.size()));
    }

    /** A chain of zones that holds at first, with a chain of NEXT in the last one. */
    private void buildZones() {
        int bottom = pick();
        int zone = Due.name();
        int key = KEYS[0];
        holdKeys(zone, key);
        same("anchor", x.anchor(zone, x.seal(zone, key)), model.anchor(zone, model.seal(zone, key)));
        for (int depth = 1; depth <= World.depth(bottom); depth++) {
            int lower = bottom >> (20 - 5 * depth) << (20 - 5 * depth);
            if (random.nextInt(3) > 0) {
                continue;
            }
            int lowerKey = KEYS[random.nextInt(KEYS.length)];
            add(lower, Due.CUT, 1);
            add(lower, Due.SEAL, x.seal(lower, lowerKey));
            sign(lower, Due.SEAL, zone, key, depth);
            holdKeys(lower, lowerKey);
            zone = lower;
            key = lowerKey;
        }
        nextChain(zone, key);
        lastZone = zone;
        lastKey = key;
    }

    /** A set below the last zone, perhaps of a cut, signed by that zone, perhaps as a star's. */
    private void addBelowLastZone() {
        int owner = pick();
        if (x.above(lastZone, owner) != -1) {
            return;
        }
        if (random.nextInt(4) == 0) {
            add(owner, Due.CUT, 1);
            add(owner, Due.NEXT, 1 + random.nextInt(31) << 20 | pick());
            sign(owner, Due.NEXT, lastZone, lastKey, World.depth(owner));
        } else if (random.nextInt(3) == 0) {
            add(owner, Due.CUT, 1);
            add(owner, Due.SEAL, x.seal(owner, lastKey));
            sign(owner, Due.SEAL, lastZone, lastKey, labelsFor(owner));
        } else {
            add(owner, Due.HOST, random.nextInt(5) - 2);
            sign(owner, Due.HOST, lastZone, lastKey, random.nextInt(World.depth(owner)));
            sign(owner, Due.HOST, lastZone, lastKey, random.nextInt(World.depth(owner)));
            ask(owner, Due.HOST);
        }
    }

    private void holdKeys(int zone, int key) {
        add(zone, Due.KEY, key);
        if (random.nextBoolean()) {
            add(zone, Due.KEY, KEYS[random.nextInt(KEYS.length)]);
        }
        sign(zone, Due.KEY, zone, key, World.depth(zone));
    }

    private void nextChain(int zone, int key) {
        int owner = zone;
        int[] rising = names.stream().mapToInt(Integer::intValue).sorted().distinct().toArray();
        for (int name : rising) {
            if (x.above(zone, name) == -1 && random.nextInt(5) > 1) {
                next(owner, name, zone, key);
                owner = name;
            }
        }
        next(owner, zone, zone, key);
    }

    private void next(int owner, int to, int zone, int key) {
        add(owner, Due.NEXT, random.nextInt(32) << 20 | to);
        sign(owner, Due.NEXT, zone, key, World.depth(owner));
    }

    private void oneCall() {
        int roll = random.nextInt(100);
        if (roll < 12) {
            add(name(), type(), data());
        } else if (roll < 15) {
            int owner = name();
            int type = type();
            same("drop", x.drop(owner, type), model.drop(owner, type));
        } else if (roll < 17) {
            int first = random.nextInt(40) - 2;
            int last = first + random.nextInt(2000) - 2;
            same("window", x.window(first, last), model.window(first, last));
        } else if (roll < 31) {
            int owner = name();
            sign(owner, type(), name(), KEYS[random.nextInt(KEYS.length)], labelsFor(owner));
        } else if (roll < 35) {
            int signature = random.nextInt(34) - 1;
            int more = random.nextInt(3) - 1;
            same("spoil", x.spoil(signature, more), model.spoil(signature, more));
        } else if (roll < 37) {
            int zone = name();
            int digest = random.nextInt(6) == 0 ? random.nextInt() : x.seal(zone, KEYS[random.nextInt(KEYS.length)]);
            same("anchor", x.anchor(zone, digest), model.anchor(zone, digest));
        } else if (roll < 39) {
            int n = random.nextInt(60) == 0 ? random.nextInt() : random.nextInt(30) - 2;
            same("tick", x.tick(n), model.tick(n));
        } else if (roll < 41) {
            signWhatIsThere();
        } else if (roll < 42) {
            addBelowLastZone();
        } else if (roll < 44) {
            int name = name();
            int other = name();
            same("above", x.above(name, other), model.above(name, other));
        } else {
            ask(name(), type());
        }
    }

    /** All sets of a name, signed by the zone that was gone through last. */
    private void signWhatIsThere() {
        int owner = pick();
        for (int type = Due.HOST; type <= Due.NEXT; type++) {
            sign(owner, type, Math.max(0, x.zone(0)), KEYS[random.nextInt(KEYS.length)], labelsFor(owner));
        }
    }

    private void ask(int name, int type) {
        same("ask " + name + ", " + type, x.ask(name, type), model.ask(name, type));
        same("reason", x.reason(), model.reason());
        reasons[x.reason()]++;
        for (int k = -1; k <= 5; k++) {
            same("zone", x.zone(k), model.zone(k));
            same("figure", x.figure(k), model.figure(k));
        }
        tellAnswer();
        if (random.nextInt(8) == 0) {
            add(name, type, data());
            tellAnswer();
        }
    }

    private void tellAnswer() {
        for (int k = -1; k <= 3; k++) {
            same("answer", x.answer(k), model.answer(k));
        }
    }

    /** A name of the run, or one beside or below one of them, or seldom any int at all. */
    private int name() {
        int roll = random.nextInt(100);
        int name = pick();
        if (roll < 2) {
            return random.nextInt(1 << 21) - 100;
        }
        if (roll < 30) {
            int shift = 15 - 5 * random.nextInt(4);
            return name & ~(31 << shift) | (1 + random.nextInt(7)) << shift;
        }
        return name;
    }

    private int type() {
        return random.nextInt(40) == 0 ? random.nextInt(9) - 1 : 1 + random.nextInt(5);
    }

    private int labelsFor(int owner) {
        int depth = World.depth(owner);
        return random.nextInt(3) > 0 ? depth : random.nextInt(depth + 2) - random.nextInt(2);
    }

    private int data() {
        switch (random.nextInt(5)) {
            case 0:
                return KEYS[random.nextInt(KEYS.length)];
            case 1:
                return x.seal(pick(), KEYS[random.nextInt(KEYS.length)]);
            case 2:
                return random.nextInt();
            default:
                return random.nextInt(33) << 20 | pick();
        }
    }

    private void add(int owner, int type, int data) {
        same("add", x.add(owner, type, data), model.add(owner, type, data));
    }

    private void sign(int owner, int type, int signer, int key, int labels) {
        same("sign", x.sign(owner, type, signer, key, labels), model.sign(owner, type, signer, key, labels));
    }

    private void same(String call, boolean got, boolean want) {
        same(call, got ? 1 : 0, want ? 1 : 0);
    }

    private void same(String call, long got, long want) {
        calls++;
        Due.is("call " + calls + ": " + call, got, want);
    }
}
