/** An object whose calls are counted, for what is answered beyond the 512th is free. */
final class Counted {
    static final int MOST_CALLS = 512;

    private final PluralMessages object = new PluralMessages();
    private int calls = 0;

    int calls() {
        return calls;
    }

    private PluralMessages counted() {
        calls++;
        if (calls > MOST_CALLS) {
            throw new AssertionError("a test makes more than 512 calls on one object");
        }
        return object;
    }

    boolean type(int w) {
        return counted().type(w);
    }

    void wipe() {
        counted().wipe();
    }

    int length() {
        return counted().length();
    }

    void compile(int slot, boolean doubled) {
        counted().compile(slot, doubled);
    }

    void rules(boolean order) {
        counted().rules(order);
    }

    int fault() {
        return counted().fault();
    }

    void number(int name, long mantissa, int scale) {
        counted().number(name, mantissa, scale);
    }

    void word(int name, int w) {
        counted().word(name, w);
    }

    boolean drop(int name) {
        return counted().drop(name);
    }

    int category(boolean order, long mantissa, int scale) {
        return counted().category(order, mantissa, scale);
    }

    int format(int slot, boolean lenient) {
        return counted().format(slot, lenient);
    }

    int size() {
        return counted().size();
    }

    int out(int k) {
        return counted().out(k);
    }
}
