import java.util.ArrayList;
import java.util.List;
import java.util.Random;

/** 'What it is': at most 512 calls, all of them answered as due; 'and it is always told why'. */
public final class WhatItIsTest {
    private static final int CALLS = 512;
    private static final int TOP = World.ROOT_KEY;
    private static final int HOST = Due.name(5);

    public static void main(String[] args) {
        greatestTime();
        theLastCallAsks();
        theLastCallTells();
        manyQuestions();
        alwaysToldWhy();
        sameCallsSameAnswers();
        Due.end();
    }

    /** No run can make the time greater than this: it does not wrap. */
    private static void greatestTime() {
        TrustResolver x = new TrustResolver();
        for (int call = 1; call <= CALLS; call++) {
            Due.is("tick " + call, x.tick(100000), call * 100000L);
        }
    }

    private static void theLastCallAsks() {
        TrustResolver x = afterSixCalls();
        for (int call = 7; call < CALLS; call++) {
            Due.is("tick, call " + call, x.tick(100000), (call - 6) * 100000L);
        }
        Due.is("the 512th call", x.ask(HOST, Due.HOST), TrustResolver.TRUE);
    }

    private static void theLastCallTells() {
        TrustResolver x = afterSixCalls();
        x.ask(HOST, Due.HOST);
        for (int call = 8; call < CALLS; call++) {
            Due.is("reason, call " + call, x.reason(), 8);
        }
        Due.is("the 512th call", x.answer(0), 1234);
    }

    /** Each question begins anew, however many there were. */
    private static void manyQuestions() {
        TrustResolver x = afterSixCalls();
        for (int call = 7; call < CALLS - 1; call += 2) {
            boolean host = call % 4 == 1;
            int due = host ? TrustResolver.TRUE : TrustResolver.FALSE;
            Due.is("ask, call " + call, x.ask(host ? HOST : Due.name(6), Due.HOST), due);
            Due.is("reason, call " + (call + 1), x.reason(), host ? 8 : 14);
        }
        Due.is("the 511th call", x.zone(1), TrustResolver.NONE);
        Due.is("the 512th call", x.zone(0), 0);
    }

    /** The root with its key, and a host below it, signed for all times that there are. */
    private static TrustResolver afterSixCalls() {
        TrustResolver x = new TrustResolver();
        x.window(0, Integer.MAX_VALUE);
        x.add(0, Due.KEY, TOP);
        x.sign(0, Due.KEY, 0, TOP, 0);
        x.anchor(0, Due.digest(77, 0, TOP));
        x.add(HOST, Due.HOST, 1234);
        x.sign(HOST, Due.HOST, 0, TOP, 1);
        return x;
    }

    /** Whatever was told before: each answer but NONE has a reason, and it is the one that goes with it. */
    private static void alwaysToldWhy() {
        for (Past past : Past.values()) {
            TrustResolver x = past.made();
            int[] names = {0, Past.ZONE, Past.HOST, Due.name(1), Due.name(27, 27, 27, 27)};
            for (int name : names) {
                for (int type = Due.HOST; type <= Due.NEXT; type++) {
                    int answer = x.ask(name, type);
                    Due.is(past + ": a reason", x.reason() >= 1 && x.reason() <= 17, true);
                    Due.is(past + ": answer for " + x.reason(), answer, Due.verdict(x.reason()));
                }
            }
        }
    }

    /** Two objects with the same calls, made in turn, with a third one between them that has others. */
    private static void sameCallsSameAnswers() {
        Random calls = new Random(5);
        TrustResolver one = new TrustResolver();
        TrustResolver between = new TrustResolver();
        TrustResolver two = new TrustResolver();
        List<Integer> answersOfOne = new ArrayList<>();
        List<Integer> answersOfTwo = new ArrayList<>();
        for (int k = 0; k < CALLS / 2; k++) {
            long seed = calls.nextLong();
            answersOfOne.add(anyCall(one, new Random(seed)));
            anyCall(between, new Random(~seed));
            answersOfTwo.add(anyCall(two, new Random(seed)));
        }
        Due.is("the same answers", answersOfOne.equals(answersOfTwo), true);
    }

    /** One call, or two. */
    private static int anyCall(TrustResolver x, Random random) {
        int name = random.nextInt(3) << 15;
        int type = 1 + random.nextInt(5);
        int key = 1 + random.nextInt(2);
        switch (random.nextInt(10)) {
            case 0:
            case 1:
                return x.add(name, type, type == Due.SEAL ? x.seal(name, key) : type == Due.KEY ? key : name);
            case 2:
            case 3:
                return x.sign(name, type, random.nextInt(2) << 15, key, name == 0 ? 0 : 1);
            case 4:
                return x.anchor(name, x.seal(name, key));
            case 5:
                return random.nextInt(3) == 0 ? x.drop(name, type) : x.tick(random.nextInt(3));
            case 6:
                return x.figure(random.nextInt(4));
            default:
                return x.ask(name, type) * 100 + x.reason();
        }
    }
}
