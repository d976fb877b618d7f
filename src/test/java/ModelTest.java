import java.util.ArrayList;
import java.util.Arrays;
import java.util.List;
import java.util.Random;

/** Many made-up runs of calls, on the program and on the model beside it: no answer may differ. */
public final class ModelTest {
    private static final int RUNS = 3000;
    private static final int[] KEYS = {11, 12, 22, 23, 33, 1000000};

    private final Random random;
    private final Both both = new Both();
    private final List<Integer> names = new ArrayList<>();
    private final int[] reasons;
    private int lastZone = 0;
    private int lastKey = KEYS[0];

    private ModelTest(long seed, int[] reasons) {
        this.random = new Random(seed);
        this.reasons = reasons;
    }

    public static void main(String[] args) {
        int[] reasons = new int[18];
        for (int run = 0; run < RUNS; run++) {
            new ModelTest(run, reasons).run();
        }
        for (int reason = 1; reason < reasons.length; reason++) {
            Due.is("reason " + reason + " came often, " + Arrays.toString(reasons), reasons[reason] >= 200, true);
        }
        Due.end();
    }

    private void run() {
        pickNames();
        if (random.nextInt(10) > 0) {
            buildZones();
        }
        for (int k = random.nextInt(4); k > 0; k--) {
            addBelowLastZone();
        }
        if (random.nextInt(4) == 0) {
            crowd();
        }
        int most = 100 + random.nextInt(350);
        while (both.calls < most) {
            oneCall();
        }
        if (random.nextInt(4) == 0) {
            toTheLastCall();
        }
        Due.is("no call behind the 512th, of " + both.calls, both.calls <= 512, true);
    }

    /** 'used for at most 512 calls': the last ones are answered as well as the first. */
    private void toTheLastCall() {
        while (both.calls < 509) {
            both.ask(name(), type());
            reasons[both.reason()]++;
        }
        while (both.calls < 512) {
            both.figure(both.calls % 4);
        }
    }

    /** So many records, signatures and anchors that it is full, or nearly so. */
    private void crowd() {
        int records = random.nextInt(4) == 0 ? 20 : 60;
        for (int k = 0; k < records; k++) {
            both.add(name(), Due.HOST, k);
        }
        int signatures = random.nextInt(4) == 0 ? 10 : 50;
        for (int k = 0; k < signatures; k++) {
            int owner = pick();
            both.sign(owner, 1 + random.nextInt(5), lastZone, lastKey, World.depth(owner));
        }
        for (int k = 0; k < 6; k++) {
            both.anchor(pick(), k);
        }
        both.anchor(0, both.seal(0, KEYS[0]));
    }

    /** Few labels, so that names meet: above, below and beside one another. */
    private void pickNames() {
        names.add(0);
        for (int k = 0; k < 9; k++) {
            int upper = pick();
            int depth = World.depth(upper);
            int label = random.nextInt(4) == 0 ? 1 : random.nextInt(20) == 0 ? 27 : 2 + random.nextInt(4);
            names.add(depth == 4 ? upper : upper | label << (15 - 5 * depth));
        }
    }

    private int pick() {
        return names.get(random.nextInt(names.size()));
    }

    /** A chain of zones that holds at first, with a chain of NEXT in the last one. */
    private void buildZones() {
        int bottom = pick();
        int zone = Due.name();
        int key = KEYS[0];
        holdKeys(zone, key);
        both.anchor(zone, both.seal(zone, key));
        for (int depth = 1; depth <= World.depth(bottom); depth++) {
            int lower = bottom >> (20 - 5 * depth) << (20 - 5 * depth);
            if (random.nextInt(3) > 0) {
                continue;
            }
            int lowerKey = KEYS[random.nextInt(KEYS.length)];
            both.add(lower, Due.CUT, 1);
            both.add(lower, Due.SEAL, both.seal(lower, lowerKey));
            both.sign(lower, Due.SEAL, zone, key, depth);
            holdKeys(lower, lowerKey);
            zone = lower;
            key = lowerKey;
        }
        nextChain(zone, key);
        lastZone = zone;
        lastKey = key;
    }

    /** A set below the last zone, perhaps of a cut, signed by that zone, perhaps as a star's. */
    private void addBelowLastZone() {
        int owner = pick();
        if (both.above(lastZone, owner) != -1) {
            return;
        }
        if (random.nextInt(4) == 0) {
            both.add(owner, Due.CUT, 1);
            both.add(owner, Due.NEXT, 1 + random.nextInt(31) << 20 | pick());
            both.sign(owner, Due.NEXT, lastZone, lastKey, World.depth(owner));
        } else if (random.nextInt(3) == 0) {
            both.add(owner, Due.CUT, 1);
            both.add(owner, Due.SEAL, both.seal(owner, lastKey));
            both.sign(owner, Due.SEAL, lastZone, lastKey, labelsFor(owner));
        } else {
            both.add(owner, Due.HOST, random.nextInt(5) - 2);
            both.sign(owner, Due.HOST, lastZone, lastKey, random.nextInt(World.depth(owner)));
            both.sign(owner, Due.HOST, lastZone, lastKey, random.nextInt(World.depth(owner)));
            ask(owner, Due.HOST);
        }
    }

    private void holdKeys(int zone, int key) {
        both.add(zone, Due.KEY, key);
        if (random.nextBoolean()) {
            both.add(zone, Due.KEY, KEYS[random.nextInt(KEYS.length)]);
        }
        both.sign(zone, Due.KEY, zone, key, World.depth(zone));
    }

    private void nextChain(int zone, int key) {
        int owner = zone;
        int[] rising = names.stream().mapToInt(Integer::intValue).sorted().distinct().toArray();
        for (int name : rising) {
            if (both.above(zone, name) == -1 && random.nextInt(5) > 1) {
                next(owner, name, zone, key);
                owner = name;
            }
        }
        next(owner, zone, zone, key);
    }

    private void next(int owner, int to, int zone, int key) {
        both.add(owner, Due.NEXT, random.nextInt(32) << 20 | to);
        both.sign(owner, Due.NEXT, zone, key, World.depth(owner));
    }

    private void oneCall() {
        if (random.nextInt(6) == 0) {
            refusedCall();
        }
        int roll = random.nextInt(100);
        if (roll < 12) {
            both.add(name(), type(), data());
        } else if (roll < 15) {
            int owner = name();
            both.drop(owner, type());
        } else if (roll < 17) {
            int first = random.nextInt(40) - 2;
            both.window(first, first + random.nextInt(2000) - 2);
        } else if (roll < 31) {
            int owner = name();
            both.sign(owner, type(), name(), KEYS[random.nextInt(KEYS.length)], labelsFor(owner));
        } else if (roll < 35) {
            int signature = random.nextInt(34) - 1;
            both.spoil(signature, random.nextInt(3) - 1);
        } else if (roll < 37) {
            int zone = name();
            int digest = random.nextInt(6) == 0 ? random.nextInt() : both.seal(zone, KEYS[random.nextInt(KEYS.length)]);
            both.anchor(zone, digest);
        } else if (roll < 39) {
            both.tick(random.nextInt(60) == 0 ? random.nextInt() : random.nextInt(30) - 2);
        } else if (roll < 41) {
            signWhatIsThere();
        } else if (roll < 42) {
            addBelowLastZone();
        } else if (roll < 44) {
            int name = name();
            both.above(name, name());
        } else if (roll < 48) {
            askDropAndTellAgain(name(), type());
        } else {
            ask(name(), type());
        }
    }

    /** Made on the program alone: if it changed anything, later answers would differ from the model's. */
    private void refusedCall() {
        int name = pick();
        int type = 1 + random.nextInt(5);
        int noName = Due.NO_NAMES[random.nextInt(Due.NO_NAMES.length)];
        int noType = Due.NO_TYPES[random.nextInt(Due.NO_TYPES.length)];
        int noKey = Due.NO_KEYS[random.nextInt(Due.NO_KEYS.length)];
        int below = -1 - random.nextInt(3);
        int none = TrustResolver.NONE;
        switch (random.nextInt(14)) {
            case 0 -> both.alone("add", x -> x.add(noName, type, 1), none);
            case 1 -> both.alone("add", x -> x.add(name, noType, 1), none);
            case 2 -> both.alone("add", x -> x.add(name, Due.KEY, noKey), none);
            case 3 -> both.alone("drop", x -> x.drop(noName, type), none);
            case 4 -> both.alone("drop", x -> x.drop(name, noType), none);
            case 5 -> both.alone("window", x -> x.window(below, 9) ? 1 : 0, 0);
            case 6 -> both.alone("window", x -> x.window(9, 9 + below) ? 1 : 0, 0);
            case 7 -> both.alone("sign", x -> x.sign(name, type, 0, noKey, 0), none);
            case 8 -> both.alone("sign", x -> x.sign(name, type, noName, 11, 0), none);
            case 9 -> both.alone("sign", x -> x.sign(name, type, 0, 11, World.depth(name) - below), none);
            case 10 -> both.alone("spoil", x -> x.spoil(below, 1) ? 1 : 0, 0);
            case 11 -> both.alone("anchor", x -> x.anchor(name, below), none);
            case 12 -> both.alone("tick", x -> x.tick(100000 - below), none);
            default -> both.alone("ask", x -> x.ask(name, noType), none);
        }
    }

    /** All sets of a name, signed by the zone that was gone through last. */
    private void signWhatIsThere() {
        int owner = pick();
        for (int type = Due.HOST; type <= Due.NEXT; type++) {
            both.sign(owner, type, Math.max(0, both.zone(0)), KEYS[random.nextInt(KEYS.length)], labelsFor(owner));
        }
    }

    private void ask(int name, int type) {
        both.ask(name, type);
        reasons[both.reason()]++;
        if (random.nextInt(3) > 0) {
            both.figure(3);
            return;
        }
        for (int k = -1; k <= 5; k++) {
            both.zone(k);
            both.figure(k);
        }
        tellAnswer();
        if (random.nextInt(8) == 0) {
            both.add(name, type, data());
            tellAnswer();
        }
    }

    /** Signatures stay when their set goes, and are good when it is what it was. */
    private void askDropAndTellAgain(int name, int type) {
        ask(name, type);
        int[] datas = {both.answer(0), both.answer(1)};
        both.drop(name, type);
        both.ask(name, type);
        for (int data : datas) {
            both.add(name, type, data);
            ask(name, type);
        }
    }

    private void tellAnswer() {
        for (int k = -1; k <= 3; k++) {
            both.answer(k);
        }
    }

    /** A name of the run, or one beside or below one of them, or seldom any int at all. */
    private int name() {
        int roll = random.nextInt(100);
        int name = pick();
        if (roll < 2) {
            return random.nextInt(1 << 21) - 100;
        }
        if (roll < 30) {
            int shift = 15 - 5 * random.nextInt(4);
            return name & ~(31 << shift) | (1 + random.nextInt(7)) << shift;
        }
        return name;
    }

    private int type() {
        return random.nextInt(40) == 0 ? random.nextInt(9) - 1 : 1 + random.nextInt(5);
    }

    private int labelsFor(int owner) {
        int depth = World.depth(owner);
        return random.nextInt(3) > 0 ? depth : random.nextInt(depth + 2) - random.nextInt(2);
    }

    private int data() {
        switch (random.nextInt(5)) {
            case 0:
                return KEYS[random.nextInt(KEYS.length)];
            case 1:
                return both.seal(pick(), KEYS[random.nextInt(KEYS.length)]);
            case 2:
                return random.nextInt();
            default:
                return random.nextInt(33) << 20 | pick();
        }
    }
}
