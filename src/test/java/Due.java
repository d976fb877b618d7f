import java.math.BigInteger;

/** Compares answers with what is due, prints those that differ, and ends a test with its exit code. */
final class Due {
    static final int HOST = 1;
    static final int CUT = 2;
    static final int SEAL = 3;
    static final int KEY = 4;
    static final int NEXT = 5;

    /** Ints that are no names, each for another fault: sign, size, a gap, a label over 27. */
    static final int[] NO_NAMES = {
        -1, Integer.MIN_VALUE, Integer.MAX_VALUE, 1 << 20, 1 << 20 | 1 << 15,
        1, 1 << 5, 1 << 10, 1 << 15 | 1, 1 << 15 | 1 << 5, 1 << 15 | 1 << 10 | 0 << 5 | 1,
        28 << 15, 31 << 15, 1 << 15 | 28 << 10, 1 << 15 | 1 << 10 | 28 << 5,
        1 << 15 | 1 << 10 | 1 << 5 | 28, 1 << 15 | 1 << 10 | 1 << 5 | 31
    };

    static final int[] NO_TYPES = {0, 6, -1, 9, Integer.MIN_VALUE, Integer.MAX_VALUE};

    static final int[] NO_KEYS = {0, -1, 1000001, Integer.MIN_VALUE, Integer.MAX_VALUE};

    private static int wrong = 0;

    private Due() {}

    static void is(String call, long got, long want) {
        if (got != want) {
            wrong++;
            System.out.println(call + " answered " + got + ", due is " + want);
        }
    }

    static void is(String call, boolean got, boolean want) {
        is(call, got ? 1 : 0, want ? 1 : 0);
    }

    /** Asks, and compares the reason and the answer that goes with it. */
    static void says(String call, TrustResolver x, int name, int type, int reason) {
        asked(call, x, name, type, verdict(reason), reason);
    }

    /** Asks, and compares the answer and its reason. */
    static void asked(String call, TrustResolver x, int name, int type, int verdict, int reason) {
        is(call + ": ask", x.ask(name, type), verdict);
        is(call + ": reason", x.reason(), reason);
    }

    /** What the document says with each reason: UNKNOWN with 1, OPEN with 6, TRUE with five, FALSE otherwise. */
    static int verdict(int reason) {
        switch (reason) {
            case 1:
                return TrustResolver.UNKNOWN;
            case 6:
                return TrustResolver.OPEN;
            case 8:
            case 9:
            case 12:
            case 15:
            case 16:
                return TrustResolver.TRUE;
            default:
                return TrustResolver.FALSE;
        }
    }

    static int name(int... labels) {
        int name = 0;
        for (int k = 0; k < labels.length; k++) {
            name |= labels[k] << (15 - 5 * k);
        }
        return name;
    }

    /** The least name that is greater, as an int; the root behind the greatest one. */
    static int nameAfter(int name) {
        return nearestName(name, 1);
    }

    /** The greatest name that is less, as an int; the greatest of all before the root. */
    static int nameBefore(int name) {
        return nearestName(name, -1);
    }

    private static int nearestName(int from, int step) {
        int name = from;
        do {
            name = name + step & (1 << 20) - 1;
        } while (Model.labels(name) == null);
        return name;
    }

    /** The data of a NEXT. */
    static int next(int name, int... types) {
        int data = name;
        for (int type : types) {
            data |= 1 << (19 + type);
        }
        return data;
    }

    /** The digest in numbers that do not wrap by themselves, so that the wrapping is seen. */
    static int digest(int... numbers) {
        BigInteger all = BigInteger.ONE.shiftLeft(64);
        BigInteger factor = new BigInteger("9E3779B97F4A7C15", 16);
        BigInteger h = BigInteger.ZERO;
        for (int x : numbers) {
            h = h.xor(BigInteger.valueOf(x).mod(all)).multiply(factor).mod(all);
            h = h.xor(h.shiftRight(30));
        }
        return h.shiftRight(33).intValueExact();
    }

    static void end() {
        if (wrong != 0) {
            System.out.println(wrong + " answers are not as due");
            System.exit(1);
        }
    }
}
