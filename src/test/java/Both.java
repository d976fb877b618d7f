import java.util.Arrays;
import java.util.function.ToIntFunction;

/** The program and the model side by side: a call goes to both, and no answer may differ. */
final class Both {
    int calls = 0;

    private final TrustResolver x = new TrustResolver();
    private final Model model = new Model();

    int add(int owner, int type, int data) {
        return same("add", x.add(owner, type, data), model.add(owner, type, data), owner, type, data);
    }

    int drop(int owner, int type) {
        return same("drop", x.drop(owner, type), model.drop(owner, type), owner, type);
    }

    void window(int first, int last) {
        same("window", x.window(first, last) ? 1 : 0, model.window(first, last) ? 1 : 0, first, last);
    }

    int sign(int owner, int type, int signer, int key, int labels) {
        return same("sign", x.sign(owner, type, signer, key, labels), model.sign(owner, type, signer, key, labels),
                owner, type, signer, key, labels);
    }

    void spoil(int signature, int more) {
        same("spoil", x.spoil(signature, more) ? 1 : 0, model.spoil(signature, more) ? 1 : 0, signature, more);
    }

    int seal(int zone, int key) {
        return same("seal", x.seal(zone, key), model.seal(zone, key), zone, key);
    }

    int anchor(int zone, int digest) {
        return same("anchor", x.anchor(zone, digest), model.anchor(zone, digest), zone, digest);
    }

    int tick(int n) {
        return same("tick", x.tick(n), model.tick(n), n);
    }

    int ask(int name, int type) {
        return same("ask", x.ask(name, type), model.ask(name, type), name, type);
    }

    int reason() {
        return same("reason", x.reason(), model.reason());
    }

    int answer(int k) {
        return same("answer", x.answer(k), model.answer(k), k);
    }

    int zone(int k) {
        return same("zone", x.zone(k), model.zone(k), k);
    }

    int figure(int what) {
        return same("figure", x.figure(what), model.figure(what), what);
    }

    int above(int name, int other) {
        return same("above", x.above(name, other), model.above(name, other), name, other);
    }

    /** A call on the program alone, which the model is spared. */
    void alone(String call, ToIntFunction<TrustResolver> made, int due) {
        same(call, made.applyAsInt(x), due);
    }

    private int same(String call, int got, int want, int... arguments) {
        calls++;
        if (got != want) {
            Due.is("call " + calls + ": " + call + Arrays.toString(arguments), got, want);
        }
        return got;
    }
}
