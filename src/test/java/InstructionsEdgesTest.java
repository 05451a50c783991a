/**
 * The boundary cases of the instructions: each at its boundary, one below it and one above it. The
 * comment of a test is the document's sentence.
 */
final class InstructionsEdgesTest extends CardChecks {
    private static final int[] KINDS = {NEW_SHORTS, NEW_BYTES};
    private static final int[] SIZES = {1, 2, 15, 16};

    public static void main(String[] args) {
        InstructionsEdgesTest test = new InstructionsEdgesTest();
        test.bytesBehind();
        test.takenAndPut();
        test.quotients();
        test.shifts();
        test.jumpsByByte();
        test.jumpsToTheEdges();
        test.jumpsIf();
        test.jumpsByDifference();
        test.methodModulo();
        test.argumentsModulo();
        test.tooFewArguments();
        test.ofThisOwner();
        test.ofAnyOwnerButOpen();
        test.endOfFrame();
        test.endWithValue();
        test.cellIndices();
        test.lowestByte();
        test.sizes();
        test.rootsAndOwners();
        test.copyCounts();
        test.copyPlaces();
        test.copyOfNone();
        test.copyOneAfterTheOther();
        test.transactionOpen();
        test.commandBytes();
        test.commandLength();
        test.replyBytes();
        test.replyLength();
        test.thrownByProgram();
        test.handlerByByte();
        test.handlerIsGone();
        test.end();
    }

    /** Bytes behind it (b with sign, else without; w two bytes, the highest first, with sign). */
    void bytesBehind() {
        newCard();
        ends("1 127", 127, PUT, 0x7F, END_WITH);
        ends("1 128", -128, PUT, 0x80, END_WITH);
        ends("1 255", -1, PUT, 0xFF, END_WITH);
        ends("2 0 127", 127, PUT_WORD, 0, 0x7F, END_WITH);
        ends("2 0 128", 128, PUT_WORD, 0, 0x80, END_WITH);
        ends("2 0 255", 255, PUT_WORD, 0, 0xFF, END_WITH);
        ends("2 1 0", 256, PUT_WORD, 1, 0, END_WITH);
        ends("2 127 255", 32767, PUT_WORD, 0x7F, 0xFF, END_WITH);
        ends("2 128 0", -32768, PUT_WORD, 0x80, 0, END_WITH);
        ends("2 255 255", -1, PUT_WORD, 0xFF, 0xFF, END_WITH);
        ends("5 0 127", 127, ADD_TO_LOCAL, 0, 0x7F, LOCAL, 0, END_WITH);
        ends("5 0 128", -128, ADD_TO_LOCAL, 0, 0x80, LOCAL, 0, END_WITH);
    }

    /** Values are taken off the stack, the last one first; written in the order in which they were put. */
    void takenAndPut() {
        newCard();
        int[][] results = {{ADD, 13}, {SUBTRACT, 7}, {MULTIPLY, 30}, {DIVIDE, 3}, {REMAINDER, 1}, {AND, 2},
            {OR, 11}, {XOR, 9}, {SHIFT_LEFT, 80}, {SHIFT_RIGHT, 1}, {SHIFT_BITS_RIGHT, 1}, {SWAP, 10}};
        for (int[] result : results) {
            ends("10 3 " + result[0], result[1], PUT, 77, PUT, 10, PUT, 3, result[0], END_WITH);
            int left = result[0] == SWAP ? 3 : 77;
            ends("below it", left, PUT, 77, PUT, 10, PUT, 3, result[0], DROP, END_WITH);
        }
        ends("20 leaves what is below", 77, PUT, 77, PUT, 10, PUT, 3, SWAP, DROP, DROP, END_WITH);
        ends("18 puts it twice", 20, PUT, 10, DOUBLE, ADD, END_WITH);
        ends("18 leaves what is below", 77, PUT, 77, PUT, 10, DOUBLE, DROP, DROP, END_WITH);
    }

    /** x / y (cut to 0), what is left. */
    void quotients() {
        newCard();
        for (int x : new int[] {-7, -6, -1, 0, 1, 6, 7}) {
            ends(x + " / 3", x < 0 ? -(-x / 3) : x / 3, join(put(x), op(PUT, 3, DIVIDE, END_WITH)));
            ends(x + " / -3", x < 0 ? -x / 3 : -(x / 3), join(put(x), op(PUT, -3, DIVIDE, END_WITH)));
            int left = x < 0 ? -(-x % 3) : x % 3;
            ends("what is left of " + x + " / 3", left, join(put(x), op(PUT, 3, REMAINDER, END_WITH)));
            ends("what is left of " + x + " / -3", left, join(put(x), op(PUT, -3, REMAINDER, END_WITH)));
        }
        for (int x : new int[] {-32768, -1, 0, 1, 32767}) {
            throwsUp(x + " / 0", 1, join(put(x), op(PUT, 0, DIVIDE)));
            throwsUp(x + " / 0, what is left", 1, join(put(x), op(PUT, 0, REMAINDER)));
        }
    }

    /** x << y, x >> y, x >>> y (x as its 16 bits; y modulo 16). */
    void shifts() {
        int[] counts = {-32768, -17, -16, -15, -1, 0, 1, 14, 15, 16, 17, 31, 32, 33, 32767};
        int[] modulo = {0, 15, 0, 1, 15, 0, 1, 14, 15, 0, 1, 15, 0, 1, 15};
        for (int x : new int[] {-32768, -2, -1, 0, 1, 0x5A5A, 32767}) {
            newCard();
            for (int k = 0; k < counts.length; k++) {
                run(join(put(x), put(counts[k]), op(SHIFT_LEFT, REPLY), put(x), put(counts[k]),
                        op(SHIFT_RIGHT, REPLY), put(x), put(counts[k]), op(SHIFT_BITS_RIGHT, END_WITH)));
                due(x + " >>> " + counts[k], card.value(), (short) ((x & 0xFFFF) >> modulo[k]));
                replies(x + " << and >> " + counts[k], x << modulo[k] & 0xFF, x >> modulo[k] & 0xFF);
            }
        }
    }

    /** What a jump by b does, at place 200: it ends where b leads. */
    private void jumpsBy(int b, int... jump) {
        newCard();
        load(200 + b, END);
        method(1, 0, 196, join(op(PUT, 0, PUT, 0), jump));
        due(jump[0] + " by " + b, card.run(1, 9), DONE);
        due("instructions", card.used(), 4);
    }

    /** 21 b: on at this instruction's place and b. 22 c b, 23 c b: likewise. */
    void jumpsByByte() {
        for (int b : new int[] {-128, -127, -5, 3, 4, 126, 127}) {
            jumpsBy(b, GO, b);
            jumpsBy(b, GO_IF, 0, b);
            jumpsBy(b, GO_IF_COMPARED, 0, b);
        }
        newCard();
        due("21 0 stays there", run(GO, 0), NO_FUEL);
        due("for all fuel", card.used(), 3000);
        ends("21 1 goes on in itself", 26, GO, 1, END_WITH, END_WITH);
        ends("22 0 stays for each 0, and goes on for 8", 7, PUT, 7, PUT, 8, PUT, 0, PUT, 0, GO_IF, 0, 0,
                END_WITH);
    }

    /** A place out of code (of an instruction). */
    void jumpsToTheEdges() {
        newCard();
        load(0, END);
        load(511, END);
        method(1, 0, 5, GO, -5);
        due("to byte 0", card.run(1, 9), DONE);
        method(1, 0, 5, GO, -6);
        due("to byte -1", card.run(1, 9), THROWN);
        due("throws 7", card.thrown0(), 7);
        due("in an instruction of its own", card.used(), 2);
        due("for which there must be fuel", card.run(1, 1), NO_FUEL);
        method(1, 0, 500, GO, 11);
        due("to byte 511", card.run(1, 9), DONE);
        method(1, 0, 500, GO, 12);
        due("to byte 512", card.run(1, 9), THROWN);
        due("throws 7", card.thrown0(), 7);
        method(1, 0, 500, PUT, 0, GO_IF, 0, 10);
        due("to byte 512 by 22", card.run(1, 9), THROWN);
        due("in an instruction of its own", card.used(), 3);
        method(1, 0, 500, PUT, 0, GO_IF, 1, 10, END);
        due("where 22 does not go, there is no harm", card.run(1, 9), DONE);
        method(1, 0, 10, PUT, 0, PUT, 0, GO_IF_COMPARED, 0, -15);
        due("to byte -1 by 23", card.run(1, 9), THROWN);
        due("in an instruction of its own", card.used(), 4);
    }

    private static boolean holds(int c, int x) {
        boolean[] all = {x == 0, x != 0, x < 0, x >= 0, x > 0, x <= 0};
        return all[c % 6];
    }

    private static int[] oneOrTwo(int... jump) {
        return join(jump, op(6, PUT, 2, END_WITH, PUT, 1, END_WITH));
    }

    /** 22 c b, x: likewise if x, by c (modulo 6): = 0, not 0, < 0, >= 0, > 0, <= 0. */
    void jumpsIf() {
        for (int c : new int[] {0, 1, 2, 3, 4, 5, 6, 7, 11, 12, 127, 128, 251, 252, 255}) {
            newCard();
            for (int x : new int[] {-32768, -1, 0, 1, 32767}) {
                ends("22 " + c + " of " + x, holds(c, x) ? 1 : 2, join(put(x), oneOrTwo(GO_IF, c)));
            }
        }
    }

    /** 23 c b, x y: by x - y (as it is, not cut). */
    void jumpsByDifference() {
        int[][] pairs = {{-32767, 1}, {-32768, 1}, {-32768, 32767}, {32766, -1}, {32767, -1}, {32767, -32768},
            {0, -32768}, {-32768, -32768}, {-32768, 0}, {5, 4}, {5, 5}, {5, 6}};
        for (int[] pair : pairs) {
            newCard();
            for (int c : new int[] {0, 1, 2, 3, 4, 5, 6, 11, 255}) {
                ends("23 " + c + " of " + pair[0] + " " + pair[1], holds(c, pair[0] - pair[1]) ? 1 : 2,
                        join(put(pair[0]), put(pair[1]), oneOrTwo(GO_IF_COMPARED, c)));
            }
        }
    }

    /** 24 m n: method m (modulo 16). 27 m n: as 24. */
    void methodModulo() {
        for (int call : new int[] {CALL, CALL_OPEN}) {
            newCard();
            for (int m = 0; m <= 15; m++) {
                method(m, 0, 200 + 3 * m, PUT, m, END_WITH);
            }
            for (int m : new int[] {0, 1, 14, 15, 16, 17, 31, 32, 128, 240, 255}) {
                load(100, call, m, 0, END_WITH);
                int caller = m % 16 == 8 ? 9 : 8;
                card.method(caller, 0, 100, true);
                due(call + " " + m, card.run(caller, 9), DONE);
                due("is method " + m % 16, card.value(), m % 16);
            }
        }
    }

    /** 24 m n: with n (modulo 9) arguments, the last one on top: they are its locals 0 on. */
    void argumentsModulo() {
        for (int call : new int[] {CALL, CALL_OPEN}) {
            newCard();
            int[] all = new int[0];
            int[] puts = new int[0];
            for (int k = 0; k < 8; k++) {
                all = join(all, op(LOCAL, k, REPLY));
                puts = join(puts, op(PUT, 11 + k));
            }
            method(1, 0, 100, join(all, op(END)));
            for (int n : new int[] {0, 1, 2, 7, 8, 9, 10, 17, 18, 255}) {
                int taken = n % 9;
                due(call + " with " + n, run(join(op(PUT, 99), puts, op(call, 1, n, END_WITH))), DONE);
                int[] want = new int[8];
                for (int k = 0; k < taken; k++) {
                    want[k] = 19 - taken + k;
                }
                replies("locals of " + n, want);
                due("what is left on the stack", card.value(), taken == 8 ? 99 : 18 - taken);
            }
        }
    }

    /** A stack with too little: for the arguments of a call. */
    void tooFewArguments() {
        newCard();
        method(1, 0, 100, PUT, 5, END_WITH);
        for (int n = 1; n <= 8; n++) {
            throwsUp("24 with one too few of " + n, 6, join(times(n - 1, PUT, 1), op(CALL, 1, n)));
            throwsUp("27 with one too few of " + n, 6, join(times(n - 1, PUT, 1), op(CALL_OPEN, 1, n)));
            ends("24 with all of " + n, 5, join(times(n, PUT, 1), op(CALL, 1, n, END_WITH)));
        }
        ends("24 with none of 9", 5, CALL, 1, 9, END_WITH);
    }

    private void calls(int call, int caller, int owner, boolean open, boolean may) {
        card.method(1, owner, 100, open);
        String what = call + " of owner " + caller + " to owner " + owner + (open ? ", open" : "");
        due(what, runOf(caller, call, 1, 0, END_WITH), may ? DONE : THROWN);
        due(what + ": thrown", card.thrown0(), may ? 0 : 4);
        due(what + ": the root", card.value(), may ? owner + 1 : 0);
    }

    /** It must be of this owner. */
    void ofThisOwner() {
        newCard();
        load(100, ROOT, END_WITH);
        for (int caller = 0; caller <= 3; caller++) {
            for (int owner = 0; owner <= 3; owner++) {
                calls(CALL, caller, owner, true, caller == owner);
                calls(CALL, caller, owner, false, caller == owner);
            }
        }
    }

    /** 27 m n: as 24, of any owner, but it must be OPEN. */
    void ofAnyOwnerButOpen() {
        newCard();
        load(100, ROOT, END_WITH);
        for (int caller = 0; caller <= 3; caller++) {
            for (int owner = 0; owner <= 3; owner++) {
                calls(CALL_OPEN, caller, owner, true, true);
                calls(CALL_OPEN, caller, owner, false, false);
            }
        }
    }

    /** 25: the frame ends. */
    void endOfFrame() {
        newCard();
        method(1, 0, 100, PUT, 9, END);
        for (int height = 0; height <= 16; height += 8) {
            int[] code = join(times(height, PUT, 1), op(CALL, 1, 0), times(height, DROP));
            due("25 leaves " + height, run(join(code, op(END))), DONE);
            throwsUp("25 leaves no more than " + height, 6, join(code, op(DROP)));
        }
    }

    /** 26 x: x is put to the caller's stack (if that is full, the caller has 6 thrown). */
    void endWithValue() {
        newCard();
        method(1, 0, 100, PUT, 9, END_WITH);
        for (int height = 14; height <= 15; height++) {
            ends("26 to a stack of " + height, 9 + height,
                    join(times(height, PUT, 1), op(CALL, 1, 0), times(height, ADD), op(END_WITH)));
        }
        throwsUp("26 to a stack of 16", 6, join(times(16, PUT, 1), op(CALL, 1, 0)));
        due("in the frame that ends", card.used(), 19);
        method(1, 0, 100, HANDLE, 5, PUT, 9, END_WITH, PUT, 8, END_WITH);
        throwsUp("its own handler is gone with it", 6, join(times(16, PUT, 1), op(CALL, 1, 0)));
        method(2, 0, 150, join(times(16, PUT, 1), op(CALL, 1, 0)));
        ends("without a handler, the caller's caller has it", 6, HANDLE, 6, CALL, 2, 0, DROP, END_WITH);
        method(2, 0, 150, join(op(HANDLE, 37), times(16, PUT, 1), op(CALL, 1, 0, END_WITH, END_WITH)));
        ends("with one it goes on there", 6, CALL, 2, 0, END_WITH);
        ends("8 arguments make room", 9, join(times(16, PUT, 1), op(CALL, 1, 8, END_WITH)));
    }

    /** 30 r i: cell i of r. 31 r i x: x becomes it. 3 a cell that there is not. */
    void cellIndices() {
        for (int kind : KINDS) {
            for (int size : SIZES) {
                newCard();
                run(kind, size, kind, size, kind, size, END);
                for (int i : new int[] {-32768, -256, -1, size, size + 1, 256, 32767}) {
                    throwsUp("30 of cell " + i + " of " + size, 3, join(op(PUT, 6), put(i), op(READ)));
                    throwsUp("31 of cell " + i + " of " + size, 3, write(6, i, 5));
                }
                for (int i = 0; i < size; i++) {
                    due("nothing is written", card.cell(6, i), 0);
                }
                due("31 of the edges", run(join(write(6, 0, 4), write(6, size - 1, 5), op(END))), DONE);
                ends("30 of the last", 5, PUT, 6, PUT, size - 1, READ, END_WITH);
                ends("30 of the first", size == 1 ? 5 : 4, PUT, 6, PUT, 0, READ, END_WITH);
                due("the object before it", card.cell(5, size - 1), 0);
                due("the object behind it", card.cell(7, 0), 0);
            }
        }
    }

    /** (BYTES: its lowest byte; read with sign). */
    void lowestByte() {
        newCard();
        run(NEW_BYTES, 2, NEW_SHORTS, 2, END);
        for (int x : new int[] {-32768, -257, -256, -129, -128, -1, 0, 1, 127, 128, 255, 256, 257, 32767}) {
            run(join(write(5, 1, x), write(6, 1, x), op(PUT, 5, PUT, 1, READ, END_WITH)));
            due("BYTES of " + x, card.value(), (byte) x);
            due("told of " + x, card.cell(5, 1), (byte) x);
            ends("SHORTS of " + x, x, PUT, 6, PUT, 1, READ, END_WITH);
            due("told of " + x, card.cell(6, 1), x);
        }
        due("no other cell", card.cell(5, 0) + card.cell(6, 0), 0);
    }

    /** 32 r: how many cells. */
    void sizes() {
        newCard();
        for (int kind : KINDS) {
            for (int size : SIZES) {
                ends("32 of " + size, size, kind, size, SIZE, END_WITH);
            }
        }
        ends("32 of a root", 8, ROOT, SIZE, END_WITH);
    }

    /** 33: this owner's ROOT. 34 r: its owner (all may ask 34). */
    void rootsAndOwners() {
        newCard();
        for (int owner = 0; owner <= 3; owner++) {
            runOf(owner, NEW_BYTES, 1, END);
        }
        for (int owner = 0; owner <= 3; owner++) {
            runOf(owner, ROOT, END_WITH);
            due("33 of owner " + owner, card.value(), owner + 1);
            for (int object = 1; object <= 8; object++) {
                due("34 by owner " + owner, runOf(owner, PUT, object, OWNER, END_WITH), DONE);
                due("34 of object " + object, card.value(), (object - 1) % 4);
            }
            throwsUpFor(owner, "34 of object 0", 2, PUT, 0, OWNER);
            throwsUpFor(owner, "34 of object 9", 2, PUT, 9, OWNER);
        }
    }

    /** Objects 5 and 6 of BYTES, with as many cells; those of 5 are -1, -2 and so on. */
    private void makeBytes(int size) {
        newCard();
        int[] fill = op(NEW_BYTES, size, NEW_BYTES, size);
        for (int i = 0; i < size; i++) {
            fill = join(fill, write(5, i, -1 - i));
        }
        due("BYTES of " + size, run(join(fill, op(END))), DONE);
    }

    private void copiesAll(int size, int n) {
        for (int i = 0; i < size; i++) {
            due("cell " + i + " of " + n + " copied", card.cell(6, i), i < n ? -1 - i : 0);
        }
    }

    /** 35 r i s j n: n cells of BYTES r from i on come to BYTES s from j on; 8: n below 0 in 35. */
    void copyCounts() {
        for (int size : SIZES) {
            for (int n : new int[] {0, 1, size - 1, size}) {
                makeBytes(size);
                due(n + " of " + size, run(join(copy(5, 0, 6, 0, n), op(END))), DONE);
                due("instructions and cells", card.used(), 7 + n);
                copiesAll(size, n);
            }
            makeBytes(size);
            throwsUp(size + 1 + " of " + size, 3, copy(5, 0, 6, 0, size + 1));
            throwsUp("32767 of " + size, 3, copy(5, 0, 6, 0, 32767));
            throwsUp("-1 of " + size, 8, copy(5, 0, 6, 0, -1));
            throwsUp("-32768 of " + size, 8, copy(5, 0, 6, 0, -32768));
            copiesAll(size, 0);
        }
    }

    /** Where i or j is one too much for n. */
    void copyPlaces() {
        makeBytes(4);
        for (int n = 1; n <= 4; n++) {
            due("i the last for " + n, run(join(copy(5, 4 - n, 6, 0, n), op(END))), DONE);
            due("the last cell", card.cell(6, n - 1), -4);
            throwsUp("i one more for " + n, 3, copy(5, 5 - n, 6, 0, n));
            throwsUp("i -1 for " + n, 3, copy(5, -1, 6, 0, n));
            due("j the last for " + n, run(join(copy(5, 0, 6, 4 - n, n), op(END))), DONE);
            due("the last cell", card.cell(6, 3), -n);
            throwsUp("j one more for " + n, 3, copy(5, 0, 6, 5 - n, n));
            throwsUp("j -1 for " + n, 3, copy(5, 0, 6, -1, n));
        }
        due("objects are as they were", card.objects(), 6);
    }

    /** (i and j are looked at for n = 0, too: each 0 to how many cells there are). */
    void copyOfNone() {
        makeBytes(3);
        for (int i : new int[] {-32768, -1, 0, 1, 3, 4, 32767}) {
            for (int j : new int[] {-32768, -1, 0, 2, 3, 4, 32767}) {
                boolean may = i >= 0 && i <= 3 && j >= 0 && j <= 3;
                due("none from " + i + " to " + j, run(join(copy(5, i, 6, j, 0), op(END))), may ? DONE : THROWN);
                due("thrown", card.thrown0(), may ? 0 : 3);
            }
        }
        copiesAll(3, 0);
        throwsUp("none from SHORTS", 11, copy(1, 0, 6, 0, 0));
        throwsUp("none to SHORTS", 11, copy(5, 0, 1, 0, 0));
    }

    /** One after the other (the least first). */
    void copyOneAfterTheOther() {
        for (int by = 1; by <= 3; by++) {
            makeBytes(16);
            run(join(copy(5, 0, 5, by, 16 - by), op(END)));
            for (int i = 0; i < 16; i++) {
                due("upwards by " + by, card.cell(5, i), -1 - i % by);
            }
            makeBytes(16);
            run(join(copy(5, by, 5, 0, 16 - by), op(END)));
            for (int i = 0; i < 16; i++) {
                due("downwards by " + by, card.cell(5, i), -1 - Math.min(i + by, i < 16 - by ? 15 : i));
            }
        }
        makeBytes(2);
        card.tear(1);
        due("torn behind the first", run(join(copy(5, 0, 6, 0, 2), op(END))), OFF);
        card.reset();
        copiesAll(2, 1);
    }

    /** 36: a transaction is open. 37: it is closed, whole. 38: undone. 39: puts 1 if one is open, 0 else. */
    void transactionOpen() {
        newCard();
        int[][] before = {{}, {OPEN}, {OPEN, CLOSE}, {OPEN, UNDO}, {OPEN, CLOSE, OPEN}, {OPEN, UNDO, OPEN}};
        for (int k = 0; k < before.length; k++) {
            int open = before[k].length % 2;
            ends("39 behind " + k, open, join(before[k], op(IS_OPEN, END_WITH)));
            throwsOrEnds("36 behind " + k, open == 1, join(before[k], op(OPEN)));
            throwsOrEnds("37 behind " + k, open == 0, join(before[k], op(CLOSE)));
            throwsOrEnds("38 behind " + k, open == 0, join(before[k], op(UNDO)));
        }
    }

    private void throwsOrEnds(String what, boolean isThrown, int[] code) {
        due(what, run(join(code, op(END))), isThrown ? THROWN : DONE);
        due(what + ": thrown", card.thrown0(), isThrown ? 9 : 0);
    }

    private void typed(int length) {
        for (int k = 1; k <= length; k++) {
            due("type", card.type(256 - k), k);
        }
    }

    /** 40 i: byte i of the command, with sign (thrown 3 when it has none such). */
    void commandBytes() {
        for (int length : new int[] {0, 1, 2, 31, 32}) {
            newCard();
            for (int i : new int[] {-32768, -1, 0, length - 1, length, length + 1, 31, 32, 256, 32767}) {
                typed(length);
                boolean has = i >= 0 && i < length;
                due("40 " + i + " of " + length, run(join(put(i), op(COMMAND, END_WITH))), has ? DONE : THROWN);
                due("its value", card.value(), has ? -1 - i : 0);
                due("thrown", card.thrown0(), has ? 0 : 3);
            }
        }
        newCard();
        for (int b : new int[] {0, 1, 127, 128, 255}) {
            card.type(b);
            ends("40 of byte " + b, (byte) b, PUT, 0, COMMAND, END_WITH);
        }
    }

    /** 41: how many bytes that has. */
    void commandLength() {
        newCard();
        for (int length : new int[] {0, 1, 31, 32}) {
            typed(length);
            ends("41 of " + length, length, COMMAND_LENGTH, END_WITH);
        }
        ends("41 of an empty one again", 0, COMMAND_LENGTH, END_WITH);
    }

    /** 42 x: the lowest byte of x comes behind the reply. */
    void replyBytes() {
        newCard();
        int[] values = {-32768, -257, -256, -129, -128, -1, 0, 1, 127, 128, 255, 256, 32767};
        for (int x : values) {
            run(join(op(PUT, 9, REPLY), put(x), op(REPLY, END)));
            replies("42 of " + x, 9, x & 0xFF);
        }
    }

    /** (at most 32). 6: a reply that is full. */
    void replyLength() {
        newCard();
        for (int n = 31; n <= 32; n++) {
            due(n + " bytes", run(join(times(n, PUT, n, REPLY), op(END))), DONE);
            due("the last", card.reply(n - 1), n);
            due("one behind it", card.reply(n), BAD);
        }
        throwsUp("33 bytes", 6, times(33, PUT, 7, REPLY));
        due("at the 33rd", card.used(), 66);
        due("the 32nd", card.reply(31), 7);
        due("the 33rd", card.reply(32), BAD);
        ends("a handler can take it", 6, join(op(HANDLE, 127), times(33, PUT, 7, REPLY), times(26, NOTHING),
                op(END_WITH)));
        due("the 32nd stays", card.reply(31), 7);
    }

    /** 43 x: THROWS x. */
    void thrownByProgram() {
        newCard();
        for (int x : new int[] {-32768, -1, 0, 1, 7, 32767}) {
            throwsUp("43 of " + x, x, join(put(x), op(THROW)));
            ends("43 of " + x + ", taken", x, join(op(HANDLE, 6), put(x), op(THROW, END_WITH)));
        }
    }

    /** 44 b: this instruction's place and b is the frame's HANDLER. */
    void handlerByByte() {
        for (int b : new int[] {-128, -127, -2, 5, 126, 127}) {
            newCard();
            load(200 + b, END_WITH);
            method(1, 0, 200, HANDLE, b, PUT, 9, THROW);
            due("44 " + b, card.run(1, 9), DONE);
            due("its value", card.value(), 9);
        }
        newCard();
        load(0, END_WITH);
        method(1, 0, 5, HANDLE, -5, PUT, 9, THROW);
        due("at byte 0", card.run(1, 9), DONE);
        method(1, 0, 5, HANDLE, -6, PUT, 9, THROW);
        due("at byte -1", card.run(1, 9), THROWN);
        due("7 is thrown there", card.thrown0(), 7);
        due("in an instruction of its own", card.used(), 4);
        load(511, END_WITH);
        method(1, 0, 500, HANDLE, 11, PUT, 9, THROW);
        due("at byte 511", card.run(1, 9), DONE);
        method(1, 0, 500, HANDLE, 12, PUT, 9, THROW);
        due("at byte 512", card.run(1, 9), THROWN);
        due("7 is thrown there", card.thrown0(), 7);
        method(1, 0, 500, HANDLE, 12, END);
        due("at byte 512, not used", card.run(1, 9), DONE);
    }

    /** 45: it has none. */
    void handlerIsGone() {
        newCard();
        throwsUp("45", 9, HANDLE, 6, HANDLE_NOT, PUT, 9, THROW, END_WITH);
        ends("44 behind 45", 9, HANDLE, 8, HANDLE_NOT, HANDLE, 5, PUT, 9, THROW, END_WITH);
        method(1, 0, 100, HANDLE_NOT, PUT, 9, THROW);
        ends("45 of a called frame is its own", 9, HANDLE, 6, CALL, 1, 0, DROP, END_WITH);
    }
}
