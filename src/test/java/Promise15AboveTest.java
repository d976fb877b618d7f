/** Promise 15: above. */
public final class Promise15AboveTest {
    public static void main(String[] args) {
        chain();
        neither();
        wrong();
        Due.end();
    }

    private static void chain() {
        TrustResolver x = new TrustResolver();
        int[] chain = {0, Due.name(5), Due.name(5, 1), Due.name(5, 1, 27), Due.name(5, 1, 27, 5)};
        for (int a = 0; a < chain.length; a++) {
            for (int b = 0; b < chain.length; b++) {
                Due.is("above " + a + ", " + b, x.above(chain[a], chain[b]), a < b ? -1 : a == b ? 0 : 1);
            }
        }
    }

    private static void neither() {
        TrustResolver x = new TrustResolver();
        Due.is("beside", x.above(Due.name(5), Due.name(6)), 1);
        Due.is("beside, deeper", x.above(Due.name(5), Due.name(6, 5)), 1);
        Due.is("last label of it", x.above(Due.name(5), Due.name(1, 5)), 1);
        Due.is("second differs", x.above(Due.name(5, 1), Due.name(5, 2, 1)), 1);
        Due.is("label with the same bits", x.above(Due.name(4), Due.name(5, 1)), 1);
        Due.is("third differs", x.above(Due.name(5, 1, 2), Due.name(5, 1, 3, 2)), 1);
    }

    private static void wrong() {
        TrustResolver x = new TrustResolver();
        for (int name : Due.NO_NAMES) {
            Due.is("name " + name, x.above(name, 0), -2);
            Due.is("other " + name, x.above(0, name), -2);
            Due.is("both " + name, x.above(name, name), -2);
        }
    }
}
