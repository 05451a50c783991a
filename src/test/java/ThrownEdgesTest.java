/**
 * Each thrown value at the edge of its condition, and each pair of which two can be thrown by one
 * instruction. The comment of a test is the document's sentence.
 */
final class ThrownEdgesTest extends CardChecks {
    private static final int[] FULL_STACK = times(16, PUT, 1);
    private static final int[] CELL_OF_ROOT = {ROOT, PUT, 0, PUT, 1, WRITE};
    /** A transaction with 20 things: the next one is a 21st. */
    private static final int[] ALL_THINGS = join(op(OPEN), times(20, CELL_OF_ROOT));

    public static void main(String[] args) {
        ThrownEdgesTest test = new ThrownEdgesTest();
        test.divisionByZero();
        test.noSuchObject();
        test.noSuchCell();
        test.objectOfAnother();
        test.thing21();
        test.thing21OfEachKind();
        test.thing21IsTaken();
        test.fullStack();
        test.tooLittle();
        test.noSuchInstruction();
        test.bytesOutOfCode();
        test.noRoom();
        test.transactionOpenOrNot();
        test.bytesWanted();
        test.firstOutOfCode();
        test.thenTooLittle();
        test.ofCellsRead();
        test.ofCellsWritten();
        test.ofNewObjects();
        test.ofCopies();
        test.ofCalls();
        test.copyWithoutFuel();
        test.handledValue();
        test.handlerIsNoneThen();
        test.frameByFrame();
        test.whereItCalled();
        test.commandEnds();
        test.end();
    }

    /** 1 division by 0. */
    void divisionByZero() {
        newCard();
        for (int divide : new int[] {DIVIDE, REMAINDER}) {
            ends("by -1", divide == DIVIDE ? -7 : 0, PUT, 7, PUT, -1, divide, END_WITH);
            throwsUp("by 0", 1, PUT, 7, PUT, 0, divide);
            throwsUp("0 by 0", 1, PUT, 0, PUT, 0, divide);
            ends("by 1", divide == DIVIDE ? 7 : 0, PUT, 7, PUT, 1, divide, END_WITH);
            ends("0 by 7", 0, PUT, 0, PUT, 7, divide, END_WITH);
        }
    }

    /** 2 reference 0, or one that there is not. */
    void noSuchObject() {
        for (int objects = 4; objects <= 40; objects += 18) {
            newCard();
            run(join(times(objects - 4, NEW_BYTES, 1, DROP), op(END)));
            due("objects", card.objects(), objects);
            for (int r : new int[] {-32768, -1, 0, objects + 1, objects + 256, 32767}) {
                throwsUp("30 of " + r, 2, join(put(r), op(PUT, 0, READ)));
                throwsUp("31 of " + r, 2, write(r, 0, 1));
                throwsUp("32 of " + r, 2, join(put(r), op(SIZE)));
                throwsUp("34 of " + r, 2, join(put(r), op(OWNER)));
                throwsUp("35 from " + r, 2, copy(r, 0, 1, 0, 0));
                throwsUp("35 to " + r, 2, copy(1, 0, r, 0, 0));
            }
            for (int r : new int[] {1, objects}) {
                due("30 of " + r, run(join(put(r), op(PUT, 0, READ, END))), DONE);
                due("31 of " + r, run(join(write(r, 0, 1), op(END))), DONE);
                due("32 of " + r, run(join(put(r), op(SIZE, END))), DONE);
                due("34 of " + r, run(join(put(r), op(OWNER, END))), DONE);
            }
        }
    }

    /** 3 a cell that there is not. */
    void noSuchCell() {
        newCard();
        run(NEW_BYTES, 3, NEW_SHORTS, 3, END);
        for (int r = 5; r <= 6; r++) {
            for (int i = -1; i <= 3; i++) {
                int want = i < 0 || i > 2 ? THROWN : DONE;
                due("30 of cell " + i, run(PUT, r, PUT, i, READ, END), want);
                due("thrown", card.thrown0(), want == DONE ? 0 : 3);
                due("31 of cell " + i, run(join(write(r, i, 9), op(END))), want);
                due("thrown", card.thrown0(), want == DONE ? 0 : 3);
            }
        }
    }

    /** 4 an object of another owner (the card itself may do with all; all may ask 34). */
    void objectOfAnother() {
        newCard();
        for (int owner = 0; owner <= 3; owner++) {
            runOf(owner, NEW_BYTES, 2, END);
        }
        for (int owner = 0; owner <= 3; owner++) {
            for (int object = 5; object <= 8; object++) {
                int thrown = owner == 0 || object == owner + 5 ? 0 : 4;
                may(owner, thrown, "30 of " + object, op(PUT, object, PUT, 1, READ));
                may(owner, thrown, "31 of " + object, write(object, 1, 5));
                may(owner, thrown, "32 of " + object, op(PUT, object, SIZE));
                may(owner, 0, "34 of " + object, op(PUT, object, OWNER));
                may(owner, thrown, "35 from " + object, copy(object, 0, owner + 5, 0, 1));
                may(owner, thrown, "35 to " + object, copy(owner + 5, 0, object, 0, 1));
            }
        }
    }

    private void may(int owner, int thrown, String what, int[] code) {
        due(what + " by owner " + owner, runOf(owner, join(code, op(END))), thrown == 0 ? DONE : THROWN);
        due(what + " by owner " + owner + ": thrown", card.thrown0(), thrown);
    }

    /** 5 a 21st thing written in one transaction. */
    void thing21() {
        newCard();
        for (int n = 19; n <= 20; n++) {
            due(n + " things", run(join(op(OPEN), times(n, CELL_OF_ROOT), op(CLOSE, END))), DONE);
        }
        throwsUp("21 things", 5, join(ALL_THINGS, CELL_OF_ROOT));
        due("at the 21st", card.used(), 1 + 4 * 21);
        due("21 things in two", run(join(ALL_THINGS, op(CLOSE, OPEN), CELL_OF_ROOT, op(CLOSE, END))), DONE);
        due("20 behind one undone", run(join(op(OPEN), CELL_OF_ROOT, op(UNDO), ALL_THINGS, op(CLOSE, END))), DONE);
        throwsUp("a 21st behind one undone", 5, join(op(OPEN), CELL_OF_ROOT, op(UNDO), ALL_THINGS, CELL_OF_ROOT));
        due("21 things outside of one", run(join(times(21, CELL_OF_ROOT), op(END))), DONE);
        due("20 behind those outside", run(join(times(5, CELL_OF_ROOT), ALL_THINGS, op(CLOSE, END))), DONE);
        due("others behind 20", run(join(ALL_THINGS, op(CLOSE), times(5, CELL_OF_ROOT), op(END))), DONE);
    }

    /** (THINGS written in a transaction: 31, 28, 29.) */
    void thing21OfEachKind() {
        int[][] things = {CELL_OF_ROOT, {NEW_SHORTS, 1, DROP}, {NEW_BYTES, 1, DROP}};
        int[][] others = {{ROOT, PUT, 0, READ, DROP}, {ROOT, SIZE, DROP}, {IS_OPEN, DROP}, {PUT, 1, REPLY},
            copy(5, 0, 5, 1, 2)};
        for (int[] one : things) {
            int[] twenty = times(20, one);
            for (int[] last : things) {
                newCard();
                due("a 20th", run(join(op(OPEN), times(19, one), last, op(END))), DONE);
                throwsUp("a 21st", 5, join(op(OPEN), twenty, last));
                due("all undone", card.objects(), 4);
            }
            for (int[] other : others) {
                newCard();
                run(NEW_BYTES, 4, END);
                due("no thing before 20", run(join(op(OPEN), other, twenty, op(END))), DONE);
                due("no thing behind 20", run(join(op(OPEN), twenty, other, op(END))), DONE);
                due("all undone", card.objects(), 5);
            }
        }
    }

    /** What throws does nothing else: the 20 are whole with 37, or undone with 38. */
    void thing21IsTaken() {
        int[] twenty = new int[0];
        for (int k = 0; k < 20; k++) {
            twenty = join(twenty, op(PUT, 2, PUT, k % 8, PUT, k + 1, WRITE));
        }
        for (int close : new int[] {CLOSE, UNDO}) {
            newCard();
            due("21 things", run(join(op(OPEN), twenty, taking(write(2, 7, 99)), op(REPLY, close, END))), DONE);
            replies("are thrown", 5);
            for (int i = 0; i < 8; i++) {
                int latest = i < 4 ? i + 17 : i + 9;
                due("cell " + i, card.cell(2, i), close == UNDO ? 0 : latest);
            }
        }
    }

    /** 6 a stack that is full. */
    void fullStack() {
        newCard();
        card.type(1);
        int[][] puts = {{PUT, 1}, {PUT_WORD, 1, 1}, {LOCAL, 0}, {DOUBLE}, {ROOT}, {IS_OPEN}, {COMMAND_LENGTH},
            {NEW_SHORTS, 1}, {NEW_BYTES, 1}};
        for (int[] one : puts) {
            due("one value less for " + one[0], run(join(times(15, PUT, 1), one, op(END))), DONE);
            throwsUp("a full stack for " + one[0], 6, join(FULL_STACK, one));
        }
        due("two new objects", card.objects(), 6);
        int[][] takers = {{SIZE}, {OWNER}, {NEGATE}, {ADD}, {SWAP}, {READ}};
        for (int[] one : takers) {
            due("what takes first, " + one[0],
                    run(join(times(14, PUT, 1), op(PUT, 1, PUT, 1), one, op(END))), DONE);
        }
        card.type(1);
        due("what takes first, 40", run(join(times(15, PUT, 1), op(PUT, 0, COMMAND, END))), DONE);
    }

    /** 6 a stack with too little. */
    void tooLittle() {
        int[] takes = new int[46];
        for (int k : new int[] {4, 11, 18, 19, 22, 26, 32, 34, 40, 42, 43}) {
            takes[k] = 1;
        }
        for (int k : new int[] {6, 7, 8, 9, 10, 12, 13, 14, 15, 16, 17, 20, 23, 30}) {
            takes[k] = 2;
        }
        takes[WRITE] = 3;
        takes[COPY] = 5;
        for (int k = 0; k < 46; k++) {
            newCard();
            if (takes[k] > 0) {
                throwsUp(k + " with one too few", 6, join(times(takes[k] - 1, PUT, 1), op(k, 0, 3)));
                due("at it", card.used(), takes[k]);
                throwsUp(k + " with none", 6, k, 0, 3);
            }
            if (k != CALL && k != CALL_OPEN) {
                run(join(times(takes[k], PUT, 1), op(k, 0, 3)));
                due(k + " with enough throws no 6", card.thrown0() == 6 ? 1 : 0, 0);
            }
        }
    }

    /** 7 no such instruction. */
    void noSuchInstruction() {
        newCard();
        due("45", run(HANDLE_NOT, END), DONE);
        for (int k : new int[] {46, 47, 64, 127, 128, 254, 255}) {
            throwsUp("" + k, 7, k, END);
            due("takes 1", card.used(), 1);
            ends(k + ", taken", 7, join(taking(k), op(END_WITH)));
        }
    }

    private static final int[][] WITH_BYTES = {{PUT, 2}, {PUT_WORD, 3}, {LOCAL, 2}, {SET_LOCAL, 2},
        {ADD_TO_LOCAL, 3}, {GO, 2}, {GO_IF, 3}, {GO_IF_COMPARED, 3}, {CALL, 3}, {CALL_OPEN, 3}, {NEW_SHORTS, 2},
        {NEW_BYTES, 2}, {HANDLE, 2}};

    /** Runs an instruction of which that many bytes stand before the end of code, with so much on the stack. */
    private int runCut(int instruction, int bytes, int height) {
        newCard();
        load(512 - bytes, instruction);
        method(1, 0, 512 - bytes - 2 * height, times(height, PUT, 1));
        return card.run(1, 100);
    }

    /** 7 a place out of code (of an instruction, its bytes, a method). */
    void bytesOutOfCode() {
        for (int[] one : WITH_BYTES) {
            for (int bytes = 1; bytes < one[1]; bytes++) {
                due(one[0] + " with " + bytes, runCut(one[0], bytes, 3), THROWN);
                due("is thrown", card.thrown0(), 7);
                due("at it", card.used(), 4);
            }
            runCut(one[0], one[1], 3);
            due(one[0] + " with all", card.used() == 4 && card.thrown0() == 7 ? 1 : 0, 0);
        }
        due("what has no bytes, at the last", runCut(END, 1, 0), DONE);
        due("a method at byte 512", card.method(1, 0, 512, true), BAD);
    }

    /** 8 no room for an object, n not 1 .. 16; n below 0 in 35. */
    void noRoom() {
        for (int kind : new int[] {NEW_SHORTS, NEW_BYTES}) {
            newCard();
            for (int n : new int[] {0, 17, 18, 128, 255}) {
                throwsUp(kind + " " + n, 8, kind, n);
            }
            ends(kind + " 1", 5, kind, 1, END_WITH);
            ends(kind + " 16", 6, kind, 16, END_WITH);
            run(join(times(34, kind, 1, DROP), op(END)));
            throwsUp("no number", 8, kind, 1);
            newCard();
            run(join(times(12, kind, 16, DROP), op(kind, 14, END)));
            throwsUp("3 cells for 2", 8, kind, 3);
            ends("2 cells for 2", 18, kind, 2, END_WITH);
            throwsUp("1 cell for 0", 8, kind, 1);
        }
        newCard();
        run(NEW_BYTES, 2, END);
        throwsUp("35 of -1", 8, copy(5, 0, 5, 0, -1));
        due("35 of 0", run(join(copy(5, 0, 5, 0, 0), op(END))), DONE);
    }

    /** 9 a transaction that is open already, or is not. */
    void transactionOpenOrNot() {
        newCard();
        throwsUp("37 where none is open", 9, CLOSE);
        throwsUp("38 where none is open", 9, UNDO);
        throwsUp("36 where one is open", 9, OPEN, OPEN);
        due("37 where one is open", run(OPEN, CLOSE, END), DONE);
        due("38 where one is open", run(OPEN, UNDO, END), DONE);
        due("36 where none is open", run(OPEN, CLOSE, OPEN, UNDO, OPEN, END), DONE);
        throwsUp("38 behind 37", 9, OPEN, CLOSE, UNDO);
        throwsUp("37 behind 38", 9, OPEN, UNDO, CLOSE);
        ends("36 that throws leaves it open", 1, join(op(OPEN), taking(OPEN), op(DROP, IS_OPEN, END_WITH)));
        ends("37 that throws opens none", 0, join(taking(CLOSE), op(DROP, IS_OPEN, END_WITH)));
        throwsUp("in a command behind one that left it open", 9, CLOSE);
    }

    /** 11 SHORTS where BYTES are wanted. */
    void bytesWanted() {
        newCard();
        run(NEW_BYTES, 2, NEW_SHORTS, 2, NEW_BYTES, 2, END);
        throwsUp("35 from SHORTS", 11, copy(6, 0, 5, 0, 1));
        throwsUp("35 to SHORTS", 11, copy(5, 0, 6, 0, 1));
        throwsUp("35 of SHORTS", 11, copy(6, 0, 6, 1, 1));
        due("35 of BYTES", run(join(copy(5, 0, 7, 0, 1), op(END))), DONE);
    }

    /** Of several, first 7. */
    void firstOutOfCode() {
        for (int[] one : WITH_BYTES) {
            for (int bytes = 1; bytes < one[1]; bytes++) {
                due("on an empty stack", runCut(one[0], bytes, 0), THROWN);
                due(one[0] + " with " + bytes, card.thrown0(), 7);
                due("on a full stack", runCut(one[0], bytes, 16), THROWN);
                due(one[0] + " with " + bytes, card.thrown0(), 7);
                due("at it", card.used(), 17);
            }
        }
        newCard();
        throwsUp("no such instruction on a full stack", 7, join(FULL_STACK, op(46)));
    }

    /** Then 6 for a stack with too little. */
    void thenTooLittle() {
        newCard();
        method(2, 2, 100, END);
        card.method(3, 2, 100, false);
        throwsUp("before 1", 6, PUT, 0, DIVIDE);
        throwsUp("before 1 of 10", 6, PUT, 0, REMAINDER);
        throwsUp("before 2 of 30", 6, PUT, 0, READ);
        throwsUp("before 2 of 31", 6, PUT, 0, PUT, 0, WRITE);
        throwsUp("before 2 of 35", 6, PUT, 0, PUT, 0, PUT, 0, PUT, 0, COPY);
        throwsUp("before 4 of 24", 6, CALL, 2, 1);
        throwsUp("before 4 of 27", 6, CALL_OPEN, 3, 1);
        throwsUp("before 5", 6, join(ALL_THINGS, op(ROOT, PUT, 0, WRITE)));
        throwsUp("no 4 before it, without arguments", 4, CALL, 2, 0);
    }

    /** Then 2, 4, ... 3: where 30 could throw several. */
    void ofCellsRead() {
        newCard();
        for (int i : new int[] {-1, 8, 32767}) {
            throwsUp("2 before 3", 2, join(op(PUT, 0), put(i), op(READ)));
            throwsUp("2 before 3 of 5", 2, join(op(PUT, 5), put(i), op(READ)));
            throwsUpFor(1, "4 before 3", 4, join(op(PUT, 1), put(i), op(READ)));
            throwsUpFor(1, "3", 3, join(op(PUT, 2), put(i), op(READ)));
        }
    }

    /** Then 2, 4, ... 3, ... 5: where 31 could throw several. */
    void ofCellsWritten() {
        newCard();
        int[][] before = {{}, ALL_THINGS};
        for (int[] one : before) {
            for (int i : new int[] {-1, 0, 8}) {
                throwsUpFor(1, "2 before 3 and 5", 2, join(one, write(0, i, 1)));
                throwsUpFor(1, "2 of 5 before 3 and 5", 2, join(one, write(5, i, 1)));
                throwsUpFor(1, "4 before 3 and 5", 4, join(one, write(1, i, 1)));
                if (i != 0) {
                    throwsUpFor(1, "3 before 5", 3, join(one, write(2, i, 1)));
                }
            }
        }
        throwsUpFor(1, "5", 5, join(ALL_THINGS, write(2, 0, 1)));
    }

    /** 8, ... 5, 6 for what is full: where 28 and 29 could throw several. */
    void ofNewObjects() {
        for (int kind : new int[] {NEW_SHORTS, NEW_BYTES}) {
            newCard();
            for (int n : new int[] {0, 17}) {
                throwsUp("8 before 5", 8, join(ALL_THINGS, op(kind, n)));
                throwsUp("8 before 6", 8, join(FULL_STACK, op(kind, n)));
                throwsUp("8 before 5 and 6", 8, join(ALL_THINGS, FULL_STACK, op(kind, n)));
            }
            throwsUp("5 before 6", 5, join(ALL_THINGS, FULL_STACK, op(kind, 1)));
            throwsUp("6", 6, join(op(OPEN), FULL_STACK, op(kind, 1)));
            run(join(times(13, kind, 16, DROP), op(END)));
            throwsUp("8 for no cells before 5 and 6", 8, join(ALL_THINGS, FULL_STACK, op(kind, 1)));
            newCard();
            run(join(times(36, kind, 1, DROP), op(END)));
            throwsUp("8 for no number before 5 and 6", 8, join(ALL_THINGS, FULL_STACK, op(kind, 1)));
        }
    }

    /** What is wrong with a reference that owner 1 gives to 35: 0, 9: 2; 3, 6: 4; 2: 11; 5: nothing. */
    private static int wrongReference(int r) {
        return r == 0 || r == 9 ? 2 : r == 3 || r == 6 ? 4 : r == 2 ? 11 : 0;
    }

    private static int firstThrown(int source, int i, int target, int j, int n) {
        for (int thrown : new int[] {2, 4, 11}) {
            if (wrongReference(source) == thrown || wrongReference(target) == thrown) {
                return thrown;
            }
        }
        if (n < 0) {
            return 8;
        }
        return i < 0 || j < 0 || i + n > 4 || j + n > 4 ? 3 : 0;
    }

    /** Then 2, 4, 11, 8, 3: where 35 could throw several, by either of its references. */
    void ofCopies() {
        int[] references = {0, 9, 3, 6, 2, 5};
        for (int source : references) {
            for (int target : references) {
                newCard();
                runOf(1, NEW_BYTES, 4, END);
                runOf(2, NEW_BYTES, 4, END);
                for (int k = 0; k < 45; k++) {
                    int n = k % 5 == 4 ? 5 : k % 5 - 1;
                    int i = k / 5 % 3 * 3 - 1;
                    int j = k / 15 * 3 - 1;
                    int thrown = firstThrown(source, i, target, j, n);
                    may(1, thrown, "35 " + source + " " + i + " " + target + " " + j + " " + n,
                            copy(source, i, target, j, n));
                }
            }
        }
    }

    /** Method 1 calls itself as often as its argument says, and then does this. */
    private void atTheDeepest(int... code) {
        method(1, 0, 100, join(op(LOCAL, 0, GO_IF, 5, 12, ADD_TO_LOCAL, 0, -1, LOCAL, 0, CALL, 1, 1, END_WITH),
                code));
    }

    /** 4, ... 6 for what is full: where 24 and 27 could throw several. */
    void ofCalls() {
        newCard();
        method(2, 0, 200, PUT, 9, END_WITH);
        card.method(3, 2, 200, true);
        card.method(4, 0, 200, false);
        int[][] calls = {{CALL, 2, 6}, {CALL, 4, 6}, {CALL_OPEN, 2, 6}, {CALL_OPEN, 3, 6}, {CALL, 3, 4},
            {CALL_OPEN, 4, 4}};
        for (int[] one : calls) {
            atTheDeepest(one[0], one[1], 0, END_WITH);
            throwsUp("in 8 frames, " + one[0] + " " + one[1], one[2], PUT, 6, CALL, 1, 1);
            int thrown = one[2] == 6 ? 0 : one[2];
            may(0, thrown, "in 7 frames, " + one[0] + " " + one[1], op(PUT, 5, CALL, 1, 1));
            atTheDeepest(one[0], one[1], 1);
            throwsUp("too little in 8 frames", 6, PUT, 6, CALL, 1, 1);
            atTheDeepest(join(taking(one[0], one[1], 0), op(END_WITH)));
            ends("taken in 8 frames", one[2], PUT, 6, CALL, 1, 1, END_WITH);
        }
    }

    /** 35 takes n more when it is done: what it throws comes before there is no fuel for n. */
    void copyWithoutFuel() {
        newCard();
        runOf(1, NEW_BYTES, 4, END);
        runOf(2, NEW_BYTES, 4, END);
        int[][] copies = {{0, 0, 5, 0, 4, 2}, {5, 0, 6, 0, 4, 4}, {5, 0, 2, 0, 4, 11}, {5, 0, 5, 0, -1, 8},
            {5, 0, 5, 0, 5, 3}, {5, 0, 5, 1, 4, 3}};
        for (int[] one : copies) {
            method(0, 1, 0, copy(one[0], one[1], one[2], one[3], one[4]));
            due("with fuel for 35 alone", card.run(0, 6), THROWN);
            due("it throws", card.thrown0(), one[5]);
            due("used", card.used(), 6);
            due("with one less", card.run(0, 5), NO_FUEL);
        }
        method(0, 1, 0, join(copy(5, 0, 5, 0, 4), op(END)));
        due("without a fault", card.run(0, 6), NO_FUEL);
        due("with one too little for n", card.run(0, 9), NO_FUEL);
        due("used", card.used(), 6);
        due("with n, but none for the next", card.run(0, 10), NO_FUEL);
        due("used", card.used(), 10);
        due("with n", card.run(0, 11), DONE);
    }

    /** The frame's stack is emptied, the value put to it, and it goes on at its handler. */
    void handledValue() {
        newCard();
        for (int height = 0; height <= 15; height += 5) {
            int[] code = taking(join(times(height, PUT, 1), op(PUT, 9, THROW)));
            ends("the value for " + height, 9, join(code, op(END_WITH)));
            throwsUp("it alone for " + height, 6, join(code, op(DROP, DROP)));
        }
        ends("a full stack has room then", 16,
                join(taking(join(FULL_STACK, op(PUT, 1))), times(15, PUT, 1), times(15, DROP),
                op(PUT, 10, ADD, END_WITH)));
        ends("the machine's own value", 1, join(taking(PUT, 5, PUT, 5, PUT, 0, DIVIDE), op(END_WITH)));
    }

    /** Its handler, which is none then. */
    void handlerIsNoneThen() {
        newCard();
        throwsUp("a second one", 8, join(taking(PUT, 9, THROW), op(PUT, 8, THROW, END_WITH)));
        throwsUp("in the handler itself", 6, join(taking(PUT, 9, THROW), op(DROP, DROP)));
        ends("until 44 sets one", 8, join(taking(PUT, 9, THROW), taking(PUT, 8, THROW), op(END_WITH)));
        method(2, 0, 200, join(taking(PUT, 9, THROW), op(PUT, 8, THROW)));
        ends("the caller's stays for a called one's", 8, join(taking(CALL, 2, 0), op(END_WITH)));
    }

    /** Without one the frame ends, and the caller has the value thrown where it called. */
    void frameByFrame() {
        newCard();
        method(2, 0, 200, PUT, 9, THROW);
        for (int frames = 2; frames <= 8; frames++) {
            atTheDeepest(PUT, 9, THROW);
            throwsUp("through " + frames, 9, PUT, frames - 2, CALL, 1, 1);
            ends("to the first of " + frames, 9, join(taking(PUT, frames - 2, CALL, 1, 1), op(END_WITH)));
            atTheDeepest(join(taking(PUT, 9, THROW), op(END_WITH)));
            ends("in the last of " + frames, 9, PUT, frames - 2, CALL, 1, 1, END_WITH);
        }
        int[] again = join(taking(PUT, 6, CALL, 1, 1), op(DROP));
        atTheDeepest(PUT, 9, THROW);
        ends("the frames that ended are there again", 9,
                join(again, again, taking(PUT, 6, CALL, 1, 1), op(END_WITH)));
    }

    /** The caller has the value thrown where it called. */
    void whereItCalled() {
        newCard();
        method(1, 2, 100, PUT, 7, SET_LOCAL, 1, PUT, 9, THROW);
        ends("its stack is emptied", 9, join(taking(PUT, 1, PUT, 2, CALL_OPEN, 1, 1), op(END_WITH)));
        throwsUp("and holds the value alone", 6, join(taking(PUT, 1, PUT, 2, CALL_OPEN, 1, 1), op(DROP, DROP)));
        ends("its locals stay", 4, join(op(PUT, 4, SET_LOCAL, 1), taking(CALL_OPEN, 1, 0), op(LOCAL, 1, END_WITH)));
        ends("its owner is its own", 1, join(taking(CALL_OPEN, 1, 0), op(ROOT, END_WITH)));
        throwsUp("its handler is none then", 9, join(taking(CALL_OPEN, 1, 0), op(CALL_OPEN, 1, 0)));
        throwsUp("45 before the call", 9, HANDLE, 6, HANDLE_NOT, CALL_OPEN, 1, 0, END_WITH);
        throwsUp("44 behind the call", 9, CALL_OPEN, 1, 0, HANDLE, 2, END_WITH);
    }

    /** Without a caller the command ends. */
    void commandEnds() {
        newCard();
        throwsUp("43", 9, PUT, 5, REPLY, PUT, 9, THROW, PUT, 6, REPLY, END);
        replies("nothing behind it", 5);
        due("used", card.used(), 4);
        throwsUp("by the machine", 7, PUT, 5, REPLY, 46, PUT, 6, REPLY, END);
        replies("nothing behind it", 5);
        throwsUp("with a transaction open", 9, OPEN, PUT, 9, THROW);
        ends("it is undone", 0, IS_OPEN, END_WITH);
    }
}
