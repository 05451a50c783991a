/** A card that refuses to be asked more often than the document says anything about. */
final class CountedCard {
    static final int MOST_CALLS = 512;

    private final CardMachine card = new CardMachine();
    private int calls;

    private CardMachine counted() {
        calls++;
        if (calls > MOST_CALLS) {
            throw new IllegalStateException("the test asks for a call behind the last that is promised");
        }
        return card;
    }

    int callsLeft() {
        return MOST_CALLS - calls;
    }

    int code(int i, int v) {
        return counted().code(i, v);
    }

    int codes(int i, long v, int n) {
        return counted().codes(i, v, n);
    }

    int method(int m, int owner, int from, boolean open) {
        return counted().method(m, owner, from, open);
    }

    int type(int b) {
        return counted().type(b);
    }

    int run(int m, int fuel) {
        return counted().run(m, fuel);
    }

    int thrown0() {
        return counted().thrown0();
    }

    int value() {
        return counted().value();
    }

    int reply(int i) {
        return counted().reply(i);
    }

    int used() {
        return counted().used();
    }

    int tear(int n) {
        return counted().tear(n);
    }

    int reset() {
        return counted().reset();
    }

    int objects() {
        return counted().objects();
    }

    int told(int object, int what) {
        return counted().told(object, what);
    }

    int cell(int object, int i) {
        return counted().cell(object, i);
    }
}
