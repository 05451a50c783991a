/** What the tests share: a card, programs for it, and the count of the answers that are not due. */
abstract class CardChecks implements Instructions {
    static final int DONE = 0;
    static final int NO_FUEL = 10;
    static final int THROWN = 20;
    static final int BAD = CardMachine.BAD;
    static final int OFF = CardMachine.OFF;

    private int answers;
    private int wrong;
    CountedCard card = new CountedCard();

    final void due(String what, long got, long want) {
        answers++;
        if (got != want) {
            wrong++;
            System.out.println(what + " answered " + got + ", due is " + want);
        }
    }

    /** Ends the program of the test, with exit code 1 when an answer was wrong. */
    final void end() {
        System.out.println(answers + " answers, " + wrong + " of them wrong");
        if (wrong > 0 || answers == 0) {
            System.exit(1);
        }
    }

    final void newCard() {
        card = new CountedCard();
    }

    static int[] op(int... bytes) {
        return bytes;
    }

    /** The instruction that puts any value. */
    static int[] put(int x) {
        return new int[] {PUT_WORD, x >> 8, x};
    }

    /** 31: cell i of an object becomes x. */
    static int[] write(int object, int i, int x) {
        return join(put(object), put(i), put(x), op(WRITE));
    }

    /** 35. */
    static int[] copy(int source, int from, int target, int to, int n) {
        return join(put(source), put(from), put(target), put(to), put(n), op(COPY));
    }

    /** What the code throws is taken, and lies on the stack behind it. */
    static int[] taking(int... code) {
        return join(op(HANDLE, 2 + code.length), code);
    }

    static int[] join(int[]... parts) {
        int length = 0;
        for (int[] part : parts) {
            length += part.length;
        }
        int[] all = new int[length];
        int at = 0;
        for (int[] part : parts) {
            System.arraycopy(part, 0, all, at, part.length);
            at += part.length;
        }
        return all;
    }

    static int[] times(int n, int... bytes) {
        int[] all = new int[n * bytes.length];
        for (int k = 0; k < all.length; k++) {
            all[k] = bytes[k % bytes.length];
        }
        return all;
    }

    final void load(int from, int... bytes) {
        CodeBytes.load(card, from, bytes);
    }

    /** Method m of an owner, open to others, with its code. */
    final void method(int m, int owner, int from, int... bytes) {
        load(from, bytes);
        if (card.method(m, owner, from, true) != 1) {
            throw new IllegalStateException("the test's method is bad");
        }
    }

    /** Runs code as method 0 of the card itself; where it runs on behind it, 7 is thrown. */
    final int run(int... bytes) {
        return runOf(0, bytes);
    }

    final int runOf(int owner, int... bytes) {
        method(0, owner, 0, join(bytes, op(255)));
        return card.run(0, 3000);
    }

    final void ends(String what, int value, int... bytes) {
        due(what + ": run", run(bytes), DONE);
        due(what + ": value", card.value(), value);
        due(what + ": thrown0", card.thrown0(), 0);
    }

    final void throwsUp(String what, int thrown, int... bytes) {
        throwsUpFor(0, what, thrown, bytes);
    }

    final void throwsUpFor(int owner, String what, int thrown, int... bytes) {
        due(what + ": run", runOf(owner, bytes), THROWN);
        due(what + ": thrown0", card.thrown0(), thrown);
        due(what + ": value", card.value(), 0);
    }

    final void replies(String what, int... bytes) {
        for (int k = 0; k < bytes.length; k++) {
            due(what + ": reply(" + k + ")", card.reply(k), bytes[k]);
        }
        due(what + ": reply behind it", card.reply(bytes.length), BAD);
    }
}
