/** Promise 7: seal. */
public final class Promise07SealTest {
    public static void main(String[] args) {
        known();
        asTheDocumentSays();
        wrong();
        Due.end();
    }

    private static void known() {
        TrustResolver x = new TrustResolver();
        Due.is("root, 11", x.seal(0, 11), 1316635903);
        Due.is("163840, 22", x.seal(163840, 22), 1663310095);
        Due.is("173056, 33", x.seal(173056, 33), 113495169);
        Due.is("no state", x.seal(0, 11), 1316635903);
    }

    private static void asTheDocumentSays() {
        TrustResolver x = new TrustResolver();
        int[] zones = {0, Due.name(1), Due.name(27), Due.name(3, 2), Due.name(27, 27, 27, 27)};
        int[] keys = {1, 2, 999, 1000000};
        for (int zone : zones) {
            for (int key : keys) {
                Due.is("seal " + zone + ", " + key, x.seal(zone, key), Due.digest(77, zone, key));
            }
        }
    }

    private static void wrong() {
        TrustResolver x = new TrustResolver();
        for (int zone : Due.NO_NAMES) {
            Due.is("zone " + zone, x.seal(zone, 1), TrustResolver.NONE);
        }
        for (int key : Due.NO_KEYS) {
            Due.is("key " + key, x.seal(0, key), TrustResolver.NONE);
        }
    }
}
