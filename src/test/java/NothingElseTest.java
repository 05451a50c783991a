import java.util.Arrays;
import java.util.List;

/**
 * "What throws does nothing else": whatever an instruction throws, and for whatever reason, all that
 * can be seen behind it is as if 43 had thrown the same value there.
 */
final class NothingElseTest extends CardChecks {
    private static final int[] FULL_STACK = times(16, PUT, 1);
    /** Owner 1's own: its root 2, BYTES 5, SHORTS 6; owner 2's: BYTES 7. */
    private static final int OWNER_OF_ALL = 1;
    private static final int PLACE_OF_HANDLER = 350;

    private boolean inTransaction;

    public static void main(String[] args) {
        NothingElseTest test = new NothingElseTest();
        for (boolean inTransaction : new boolean[] {false, true}) {
            test.inTransaction = inTransaction;
            test.seeing();
            test.divisions();
            test.references();
            test.cells();
            test.wall();
            test.things();
            test.stacks();
            test.code();
            test.room();
            test.transactions();
            test.shorts();
        }
        test.fullReply();
        test.fullFrames();
        test.end();
    }

    /** Nothing of this would be worth anything if the frame were not seen. */
    private void seeing() {
        newCard();
        runThrowing(card, op(), PUT, 9, THROW);
        due("the handler", card.value(), 1);
        int open = inTransaction ? 1 : 0;
        int left = inTransaction ? 17 : 25;
        replies("the frame", 61, 9, 6, 20, 21, 22, 23, 24, 25, 26, 27, open, 2, 2, left);
    }

    /** 1 division by 0. */
    private void divisions() {
        throwsAlone(1, PUT, 7, PUT, 0, DIVIDE);
        throwsAlone(1, PUT, 7, PUT, 0, REMAINDER);
    }

    /** 2 reference 0, or one that there is not. */
    private void references() {
        for (int r : new int[] {0, -1, 41}) {
            throwsAlone(2, PUT, r, PUT, 0, READ);
            throwsAlone(2, write(r, 0, 99));
            throwsAlone(2, PUT, r, SIZE);
            throwsAlone(2, PUT, r, OWNER);
            throwsAlone(2, copy(r, 0, 5, 0, 1));
            throwsAlone(2, copy(5, 0, r, 0, 1));
        }
    }

    /** 3 a cell that there is not. */
    private void cells() {
        for (int i : new int[] {-1, 4, 32767}) {
            throwsAlone(3, PUT, 5, PUT, i, READ);
            throwsAlone(3, write(5, i, 99));
            throwsAlone(3, copy(5, i, 5, 0, 1));
            throwsAlone(3, copy(5, 0, 5, i, 1));
            throwsAlone(3, PUT, i, COMMAND);
        }
        throwsAlone(3, write(2, 8, 99));
        throwsAlone(3, write(6, 2, 99));
        throwsAlone(3, copy(5, 0, 5, 1, 4));
        throwsAlone(3, PUT, 2, COMMAND);
    }

    /** 4 an object of another owner, a method of another one, or one that is not OPEN. */
    private void wall() {
        for (int object : new int[] {1, 3, 7}) {
            throwsAlone(4, PUT, object, PUT, 0, READ);
            throwsAlone(4, write(object, 0, 99));
            throwsAlone(4, PUT, object, SIZE);
            throwsAlone(4, copy(object, 0, 5, 0, 1));
            throwsAlone(4, copy(5, 0, object, 0, 1));
        }
        throwsAlone(4, PUT, 1, PUT, 2, CALL, 2, 2);
        throwsAlone(4, PUT, 1, PUT, 2, CALL, 0, 2);
        throwsAlone(4, PUT, 1, PUT, 2, CALL_OPEN, 2, 2);
    }

    /** 5 a 21st thing written in one transaction. */
    private void things() {
        int[] all = times(17, write(2, 6, 11));
        if (inTransaction) {
            throwsAloneBehind(5, all, write(2, 0, 99));
            throwsAloneBehind(5, all, write(5, 0, 99));
            throwsAloneBehind(5, all, op(NEW_SHORTS, 1));
            throwsAloneBehind(5, all, op(NEW_BYTES, 1));
        }
    }

    /** 6 a stack that is full, or a stack with too little. */
    private void stacks() {
        int[][] puts = {{PUT, 1}, {PUT_WORD, 1, 1}, {LOCAL, 0}, {DOUBLE}, {ROOT}, {IS_OPEN}, {COMMAND_LENGTH},
            {NEW_SHORTS, 1}, {NEW_BYTES, 1}};
        for (int[] one : puts) {
            throwsAlone(6, join(FULL_STACK, one));
        }
        int[][] takes = {{SET_LOCAL, 3}, {NEGATE}, {DOUBLE}, {DROP}, {GO_IF, 0, 90}, {SIZE}, {OWNER}, {COMMAND},
            {REPLY}, {THROW}, {END_WITH}, {PUT, 1, ADD}, {PUT, 0, DIVIDE}, {PUT, 1, SHIFT_LEFT}, {PUT, 1, SWAP},
            {PUT, 1, GO_IF_COMPARED, 1, 90}, {PUT, 2, READ}, {PUT, 0, PUT, 9, WRITE},
            {PUT, 0, PUT, 5, PUT, 0, PUT, 1, COPY}, {PUT, 1, CALL, 3, 2}, {PUT, 1, CALL_OPEN, 3, 2}};
        for (int[] one : takes) {
            throwsAlone(6, one);
        }
        // The called frame takes its argument, and its value finds the caller's stack full.
        throwsAlone(6, join(FULL_STACK, op(CALL, 3, 0)));
    }

    /** 7 no such instruction. */
    private void code() {
        throwsAlone(7, PUT, 4, 46);
        throwsAlone(7, PUT, 4, 255);
    }

    /** 8 no room for an object, n not 1 .. 16; n below 0 in 35. */
    private void room() {
        for (int n : new int[] {0, 17, 255}) {
            throwsAlone(8, PUT, 4, NEW_SHORTS, n);
            throwsAlone(8, PUT, 4, NEW_BYTES, n);
        }
        throwsAlone(8, copy(5, 0, 5, 1, -1));
        int[] allCells = op(NEW_SHORTS, 16, NEW_BYTES, 16, NEW_BYTES, 16, DROP, DROP, DROP);
        int[] most = join(times(3, allCells), op(NEW_BYTES, 16, NEW_BYTES, 16, NEW_BYTES, 16, DROP, DROP, DROP));
        throwsAloneBehind(8, most, op(NEW_SHORTS, 16));
        throwsAloneBehind(8, most, op(NEW_BYTES, 16));
    }

    /** 9 a transaction that is open already, or is not. */
    private void transactions() {
        if (inTransaction) {
            throwsAlone(9, PUT, 4, OPEN);
        } else {
            throwsAlone(9, PUT, 4, CLOSE);
            throwsAlone(9, PUT, 4, UNDO);
        }
    }

    /** 11 SHORTS where BYTES are wanted. */
    private void shorts() {
        throwsAlone(11, copy(6, 0, 5, 0, 1));
        throwsAlone(11, copy(5, 0, 6, 0, 1));
        throwsAlone(11, copy(2, 0, 2, 1, 1));
    }

    private void throwsAlone(int thrown, int... code) {
        throwsAloneBehind(thrown, op(), code);
    }

    private void throwsAloneBehind(int thrown, int[] before, int... code) {
        int[] explicit = op(PUT, thrown, THROW);
        List<String> wanted = Seen.of(card -> runThrowing(card, before, explicit));
        List<String> seen = Seen.of(card -> runThrowing(card, before, code));
        // What it took to put what the instruction takes is no part of it.
        String difference = Seen.difference(wanted, seen, "used =");
        String what = Arrays.toString(code);
        due("what " + what + " does but throw " + thrown + ": " + difference, difference.length(), 0);
        CountedCard asked = new CountedCard();
        runThrowing(asked, before, code);
        due(what + " throws", asked.reply(1), thrown);
        due(what + " leaves it alone on the stack", asked.reply(2), 6);
    }

    /** Runs code that throws in a frame with locals and a handler that tells all of the frame that it can. */
    private void runThrowing(CountedCard card, int[] before, int... code) {
        CodeBytes.load(card, 0, join(op(NEW_BYTES, 4, NEW_SHORTS, 2), write(5, 1, 31), write(6, 1, 32),
                write(2, 2, 33), op(END)));
        card.method(0, OWNER_OF_ALL, 0, true);
        card.run(0, 99);
        CodeBytes.load(card, 0, join(op(NEW_BYTES, 4), write(7, 1, 34), op(END)));
        card.method(0, 2, 0, true);
        card.run(0, 99);
        card.method(2, 2, 500, false);
        CodeBytes.load(card, 500, PUT, 9, END_WITH);
        card.method(3, OWNER_OF_ALL, 500, true);
        card.type(3);
        card.type(4);
        card.tear(50);
        method1(card, before, code);
        card.run(1, 3000);
        card.type(5);
        // The code itself differs, and is not what is looked at.
        CodeBytes.load(card, PLACE_OF_HANDLER - 100, new int[100]);
    }

    private void method1(CountedCard card, int[] before, int... code) {
        int[] locals = new int[0];
        for (int k = 0; k < 8; k++) {
            locals = join(locals, op(PUT, 20 + k, SET_LOCAL, k));
        }
        int[] things = join(op(inTransaction ? OPEN : NOTHING), write(2, 0, 71), write(5, 0, 72),
                op(NEW_SHORTS, 2, DROP), op(PUT, 61, REPLY));
        int[] start = join(locals, things, before);
        int place = PLACE_OF_HANDLER - 100;
        CodeBytes.load(card, place - start.length, join(start, op(HANDLE, 100), code));
        CodeBytes.load(card, PLACE_OF_HANDLER, told());
        card.method(1, OWNER_OF_ALL, place - start.length, true);
    }

    /** Replies the value, the 6 of a stack that held it alone, locals, and how many things can be written. */
    private static int[] told() {
        int[] all = join(op(REPLY), taking(DROP), op(REPLY));
        for (int k = 0; k < 8; k++) {
            all = join(all, op(LOCAL, k, REPLY));
        }
        all = join(all, op(IS_OPEN, REPLY, COMMAND_LENGTH, REPLY, ROOT, REPLY, PUT, 0, SET_LOCAL, 0));
        int[] write = join(write(2, 7, 1), op(ADD_TO_LOCAL, 0, 1, LOCAL, 0, PUT, 25));
        int[] writes = join(write, op(GO_IF_COMPARED, 2, -write.length));
        return join(all, taking(writes), op(LOCAL, 0, REPLY, PUT, 1, END_WITH));
    }

    /** 6 a reply that is full. */
    private void fullReply() {
        newCard();
        int[] full = times(32, PUT, 7, REPLY);
        ends("the value", 6, join(full, taking(PUT, 9, REPLY), op(END_WITH)));
        for (int i = 0; i < 32; i++) {
            due("byte " + i, card.reply(i), 7);
        }
        due("one behind it", card.reply(32), BAD);
        throwsUp("it alone on the stack", 6, join(full, taking(PUT, 8, PUT, 9, REPLY), op(DROP, DROP)));
        ends("locals", 5, join(op(PUT, 5, SET_LOCAL, 7), full, taking(PUT, 9, REPLY), op(LOCAL, 7, END_WITH)));
        ends("a transaction", 1, join(op(OPEN), full, taking(PUT, 9, REPLY), op(IS_OPEN, END_WITH)));
    }

    /** 6 frames that are full: the caller's stack and locals, and its arguments. */
    private void fullFrames() {
        for (int call : new int[] {CALL, CALL_OPEN}) {
            newCard();
            int[] deepest = join(op(PUT, 44, SET_LOCAL, 5, PUT, 3), taking(PUT, 8, call, 1, 1), op(REPLY), taking(DROP), op(REPLY, LOCAL, 5, REPLY, LOCAL, 0, END_WITH));
            method(1, 0, 100, join(op(LOCAL, 0, GO_IF, 5, 12, ADD_TO_LOCAL, 0, -1, LOCAL, 0, CALL, 1, 1, END_WITH),
                    deepest));
            ends("in 8 frames", 0, PUT, 6, CALL, 1, 1, END_WITH);
            replies("thrown, alone, and a local", 6, 6, 44);
            ends("again", 0, PUT, 6, CALL, 1, 1, END_WITH);
        }
    }
}
