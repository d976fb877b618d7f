/** Promise 9: tick. */
public final class Promise09TickTest {
    public static void main(String[] args) {
        TrustResolver x = new TrustResolver();
        Due.is("0", x.tick(0), 0);
        Due.is("5", x.tick(5), 5);
        Due.is("0 more", x.tick(0), 5);
        Due.is("most", x.tick(100000), 100005);
        Due.is("too many", x.tick(100001), TrustResolver.NONE);
        Due.is("-1", x.tick(-1), TrustResolver.NONE);
        Due.is("least", x.tick(Integer.MIN_VALUE), TrustResolver.NONE);
        Due.is("greatest", x.tick(Integer.MAX_VALUE), TrustResolver.NONE);
        Due.is("time", x.figure(2), 100005);
        for (int k = 0; k < 500; k++) {
            x.tick(100000);
        }
        Due.is("long after", x.figure(2), 50100005);
        Due.end();
    }
}
