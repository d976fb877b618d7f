/** The edges of 'Terms', the data of each type, and what is made of them: digests and marks. */
public final class EdgeDataTest {
    private static final int OWNER = Due.name(5, 7);
    private static final int[] OVER_ALL = {
        Integer.MIN_VALUE, Integer.MIN_VALUE + 1, -(1 << 25), -(1 << 20), -2, -1, 0, 1, 2,
        999999, 1000000, 1000001, (1 << 20) - 1, 1 << 20, (1 << 25) - 1, 1 << 25, Integer.MAX_VALUE - 1, Integer.MAX_VALUE
    };

    public static void main(String[] args) {
        anyInt(Due.HOST);
        anyInt(Due.CUT);
        digestsFromZeroOn();
        keysToAMillion();
        namesOfNext();
        sumsOfNext();
        longsThatWrap();
        dataThatAreNegative();
        Due.end();
    }

    /** '1 HOST: any int. 2 CUT: any int'. */
    private static void anyInt(int type) {
        TrustResolver x = new TrustResolver();
        for (int k = 0; k < OVER_ALL.length; k++) {
            Due.is("type " + type + ", data " + OVER_ALL[k], x.add(OWNER, type, OVER_ALL[k]), k + 1);
        }
    }

    /** '3 SEAL: a digest, from 0 on'. */
    private static void digestsFromZeroOn() {
        taken(Due.SEAL, 0, 1, 1 << 20, 1 << 25, Integer.MAX_VALUE);
        refused(Due.SEAL, -1, -2, -(1 << 20), Integer.MIN_VALUE, Integer.MIN_VALUE + 1);
    }

    /** '4 KEY: a key, 1 .. 1000000'. */
    private static void keysToAMillion() {
        taken(Due.KEY, 1, 2, 999999, 1000000);
        refused(Due.KEY, 0, -1, 1000001, Integer.MIN_VALUE, Integer.MAX_VALUE);
    }

    /** '5 NEXT: a name + ...': what is no name in its lower 20 bits is refused, whatever is above. */
    private static void namesOfNext() {
        for (int types = 0; types <= 31; types += 31) {
            taken(Due.NEXT, types << 20, types << 20 | Due.name(1), types << 20 | Due.name(27),
                    types << 20 | Due.name(1, 1), types << 20 | Due.name(27, 27, 27, 27));
            for (int no : Due.NO_NAMES) {
                if (no >= 0 && no < 1 << 20) {
                    refused(Due.NEXT, types << 20 | no);
                }
            }
        }
    }

    /** '... + 2^20 * a sum of 2^(type - 1)': 0 to 31, and neither 32 nor anything below 0. */
    private static void sumsOfNext() {
        for (int types = 0; types <= 31; types++) {
            taken(Due.NEXT, types << 20 | Due.name(3));
        }
        refused(Due.NEXT, 32 << 20, 32 << 20 | Due.name(3), 33 << 20, 63 << 20, 64 << 20, 2047 << 20,
                -1, -1 << 20, -1 << 20 | Due.name(3), Integer.MIN_VALUE, Integer.MIN_VALUE | Due.name(3), Integer.MAX_VALUE);
    }

    private static void taken(int type, int... datas) {
        TrustResolver x = new TrustResolver();
        for (int k = 0; k < datas.length; k++) {
            Due.is("type " + type + ", data " + datas[k], x.add(OWNER, type, datas[k]), k + 1);
        }
        Due.is("records", x.figure(0), datas.length);
    }

    private static void refused(int type, int... datas) {
        for (int data : datas) {
            Twins.changesNothing("add of type " + type + ", data " + data, TrustResolver.NONE, x -> x.add(Past.HOST, type, data));
        }
    }

    /** 'in longs that wrap; the digest is the int h >>> 33': 31 bits, so never below 0. */
    private static void longsThatWrap() {
        int[] zones = {0, Due.name(1), Due.name(5), Due.name(26, 27), Due.name(27, 27, 27, 27)};
        int highest = 0;
        for (int zone : zones) {
            TrustResolver x = new TrustResolver();
            for (int key = 1; key <= 1000000; key += key < 64 ? 1 : 33333) {
                int seal = x.seal(zone, key);
                Due.is("seal " + zone + ", " + key, seal, Due.digest(77, zone, key));
                highest |= seal;
            }
            Due.is("seal " + zone + ", 1000000", x.seal(zone, 1000000), Due.digest(77, zone, 1000000));
        }
        Due.is("all 31 bits are used", highest, Integer.MAX_VALUE);
    }

    /** A number below 0 is a long below 0, in 'h xor x': the mark is moved by the digests' difference. */
    private static void dataThatAreNegative() {
        int[] datas = {-1, Integer.MIN_VALUE, 0, Integer.MAX_VALUE};
        for (int data : datas) {
            World w = World.rooted();
            int number = w.signed(OWNER, Due.HOST, 1, 0, Past.TOP);
            w.x.drop(OWNER, Due.HOST);
            w.x.add(OWNER, Due.HOST, data);
            Due.asked("another data", w.x, OWNER, Due.HOST, TrustResolver.FALSE, 11);
            int was = Due.digest(Past.TOP, 0, Due.HOST, 2, 0, 1000, OWNER, 1);
            w.x.spoil(number, Due.digest(Past.TOP, 0, Due.HOST, 2, 0, 1000, OWNER, data) - was);
            Due.asked("with its mark, " + data, w.x, OWNER, Due.HOST, TrustResolver.TRUE, 8);
            w.x.spoil(number, 1);
            Due.asked("with another one, " + data, w.x, OWNER, Due.HOST, TrustResolver.FALSE, 11);
        }
    }
}
