import java.math.BigInteger;

/** Compares answers with what is due, prints those that differ, and ends a test with its exit code. */
final class Due {
    static final int HOST = 1;
    static final int CUT = 2;
    static final int SEAL = 3;
    static final int KEY = 4;
    static final int NEXT = 5;

    /** Ints that are no names, each for another fault: sign, size, a gap, a label over 27. */
    static final int[] NO_NAMES = {
        -1, Integer.MIN_VALUE, Integer.MAX_VALUE, 1 << 20, 1 << 20 | 1 << 15,
        1, 1 << 5, 1 << 10, 1 << 15 | 1, 1 << 15 | 1 << 5, 1 << 15 | 1 << 10 | 0 << 5 | 1,
        28 << 15, 31 << 15, 1 << 15 | 28 << 10, 1 << 15 | 1 << 10 | 28 << 5,
        1 << 15 | 1 << 10 | 1 << 5 | 28, 1 << 15 | 1 << 10 | 1 << 5 | 31
    };

    static final int[] NO_TYPES = {0, 6, -1, 9, Integer.MIN_VALUE, Integer.MAX_VALUE};

    static final int[] NO_KEYS = {0, -1, 1000001, Integer.MIN_VALUE, Integer.MAX_VALUE};

    private static int wrong = 0;

    private Due() {}

    static void is(String call, long got, long want) {
        if (got != want) {
            wrong++;
            System.out.println(call + " answered " + got + ", due is " + want);
        }
    }

    static void is(String call, boolean got, boolean want) {
        is(call, got ? 1 : 0, want ? 1 : 0);
    }

    /** Asks, and compares the answer and its reason. */
    static void asked(String call, TrustResolver x, int name, int type, int verdict, int reason) {
        is(call + ": ask", x.ask(name, type), verdict);
        is(call + ": reason", x.reason(), reason);
    }

    static int name(int... labels) {
        int name = 0;
        for (int k = 0; k < labels.length; k++) {
            name |= labels[k] << (15 - 5 * k);
        }
        return name;
    }

    /** The data of a NEXT. */
    static int next(int name, int... types) {
        int data = name;
        for (int type : types) {
            data |= 1 << (19 + type);
        }
        return data;
    }

    /** The digest in numbers that do not wrap by themselves, so that the wrapping is seen. */
    static int digest(int... numbers) {
        BigInteger all = BigInteger.ONE.shiftLeft(64);
        BigInteger factor = new BigInteger("9E3779B97F4A7C15", 16);
        BigInteger h = BigInteger.ZERO;
        for (int x : numbers) {
            h = h.xor(BigInteger.valueOf(x).mod(all)).multiply(factor).mod(all);
            h = h.xor(h.shiftRight(30));
        }
        return h.shiftRight(33).intValueExact();
    }

    static void end() {
        if (wrong != 0) {
            System.out.println(wrong + " answers are not as due");
            System.exit(1);
        }
    }
}
