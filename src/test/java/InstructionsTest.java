/** Terms: what each instruction does. */
final class InstructionsTest extends CardChecks {
    public static void main(String[] args) {
        InstructionsTest test = new InstructionsTest();
        test.puts();
        test.locals();
        test.localsOfFrames();
        test.sums();
        test.products();
        test.bits();
        test.shifts();
        test.stackMoves();
        test.jumps();
        test.jumpsIf();
        test.jumpsIfCompared();
        test.calls();
        test.arguments();
        test.callsOfOthers();
        test.ends();
        test.newObjects();
        test.cells();
        test.bytesAndShorts();
        test.sizesAndOwners();
        test.copies();
        test.copiesThatOverlap();
        test.transactions();
        test.command();
        test.handlers();
        test.lengths();
        test.end();
    }

    void puts() {
        newCard();
        ends("0", 0, PUT, 0, NOTHING, END_WITH);
        ends("1 127", 127, PUT, 127, END_WITH);
        ends("1 -128", -128, PUT, -128, END_WITH);
        ends("2, highest first", 0x1234, PUT_WORD, 0x12, 0x34, END_WITH);
        ends("2, low byte without sign", 0xFF, PUT_WORD, 0, 0xFF, END_WITH);
        ends("2, with sign", -1, PUT_WORD, 0xFF, 0xFF, END_WITH);
        ends("2, least", -32768, PUT_WORD, 0x80, 0, END_WITH);
        ends("2, most", 32767, PUT_WORD, 0x7F, 0xFF, END_WITH);
    }

    void locals() {
        newCard();
        ends("3, at first", 0, LOCAL, 7, END_WITH);
        ends("4", 9, PUT, 9, SET_LOCAL, 7, LOCAL, 7, END_WITH);
        ends("4, modulo 8", 9, PUT, 9, SET_LOCAL, 10, LOCAL, 2, END_WITH);
        ends("3, modulo 8", 9, PUT, 9, SET_LOCAL, 2, LOCAL, 10, END_WITH);
        ends("k without sign", 9, PUT, 9, SET_LOCAL, 255, LOCAL, 7, END_WITH);
        ends("another local", 0, PUT, 9, SET_LOCAL, 2, LOCAL, 1, END_WITH);
        ends("5", 12, PUT, 9, SET_LOCAL, 2, ADD_TO_LOCAL, 10, 3, LOCAL, 2, END_WITH);
        ends("5, with sign", -119, PUT, 9, SET_LOCAL, 2, ADD_TO_LOCAL, 2, -128, LOCAL, 2, END_WITH);
        ends("5, cut", -32768,
                join(put(32767), op(SET_LOCAL, 3, ADD_TO_LOCAL, 3, 1, LOCAL, 3, END_WITH)));
        ends("5, cut below", 32767,
                join(put(-32768), op(SET_LOCAL, 3, ADD_TO_LOCAL, 251, -1, LOCAL, 3, END_WITH)));
        throwsUp("5 puts nothing", 6, ADD_TO_LOCAL, 2, 3, DROP);
        throwsUp("4 takes it", 6, PUT, 1, SET_LOCAL, 0, DROP);
    }

    void localsOfFrames() {
        newCard();
        method(1, 0, 100, LOCAL, 3, PUT, 5, SET_LOCAL, 3, END_WITH);
        ends("a frame's locals are 0 at first", 0, PUT, 9, SET_LOCAL, 3, CALL, 1, 0, END_WITH);
        ends("also in a frame used before", 0, CALL, 1, 0, DROP, CALL, 1, 0, END_WITH);
        ends("the caller's stay", 9, PUT, 9, SET_LOCAL, 3, CALL, 1, 0, LOCAL, 3, END_WITH);
    }

    private void two(int instruction, int x, int y, int want) {
        ends(x + " " + y + " " + instruction, want, join(put(x), put(y), op(instruction, END_WITH)));
        throwsUp(x + " " + y + " " + instruction + " puts one", 6,
                join(put(x), put(y), op(instruction, DROP, DROP)));
    }

    void sums() {
        newCard();
        two(ADD, 5, 7, 12);
        two(ADD, 32767, 1, -32768);
        two(ADD, -32768, -1, 32767);
        two(SUBTRACT, 5, 7, -2);
        two(SUBTRACT, -32768, 1, 32767);
        two(SUBTRACT, 0, -32768, -32768);
        ends("11", -5, PUT, 5, NEGATE, END_WITH);
        ends("11 of below 0", 5, PUT, -5, NEGATE, END_WITH);
        ends("11 of the least", -32768, join(put(-32768), op(NEGATE, END_WITH)));
    }

    void products() {
        newCard();
        two(MULTIPLY, -5, 7, -35);
        two(MULTIPLY, 300, 300, (short) 90000);
        two(MULTIPLY, -32768, -32768, 0);
        two(MULTIPLY, -32768, -1, -32768);
        two(DIVIDE, 7, 2, 3);
        two(DIVIDE, -7, 2, -3);
        two(DIVIDE, 7, -2, -3);
        two(DIVIDE, -7, -2, 3);
        two(DIVIDE, -32768, -1, -32768);
        two(DIVIDE, 0, 5, 0);
        two(REMAINDER, 7, 2, 1);
        two(REMAINDER, -7, 2, -1);
        two(REMAINDER, 7, -2, 1);
        two(REMAINDER, -7, -2, -1);
        two(REMAINDER, -32768, -1, 0);
        throwsUp("9 by 0", 1, PUT, 7, PUT, 0, DIVIDE);
        throwsUp("10 by 0", 1, PUT, 7, PUT, 0, REMAINDER);
        throwsUp("0 / 0", 1, PUT, 0, PUT, 0, DIVIDE);
    }

    void bits() {
        newCard();
        two(AND, 0x0F35, 0x0353, 0x0311);
        two(AND, -1, -32768, -32768);
        two(OR, 0x0F35, 0x1353, 0x1F77);
        two(OR, -32768, 1, -32767);
        two(XOR, 0x0F35, 0x0353, 0x0C66);
        two(XOR, -1, 1, -2);
    }

    void shifts() {
        newCard();
        two(SHIFT_LEFT, 3, 2, 12);
        two(SHIFT_LEFT, 1, 15, -32768);
        two(SHIFT_LEFT, 3, 16, 3);
        two(SHIFT_LEFT, 3, 17, 6);
        two(SHIFT_LEFT, 1, -1, -32768);
        two(SHIFT_LEFT, -1, 8, -256);
        two(SHIFT_RIGHT, 12, 2, 3);
        two(SHIFT_RIGHT, -12, 2, -3);
        two(SHIFT_RIGHT, -1, 15, -1);
        two(SHIFT_RIGHT, -32768, -1, -1);
        two(SHIFT_RIGHT, -5, 32, -5);
        two(SHIFT_BITS_RIGHT, 12, 2, 3);
        two(SHIFT_BITS_RIGHT, -1, 1, 32767);
        two(SHIFT_BITS_RIGHT, -1, 15, 1);
        two(SHIFT_BITS_RIGHT, -32768, -1, 1);
        two(SHIFT_BITS_RIGHT, -5, 16, -5);
        two(SHIFT_BITS_RIGHT, -1, -32760, 255);
    }

    void stackMoves() {
        newCard();
        ends("18", 16, PUT, 4, DOUBLE, MULTIPLY, END_WITH);
        ends("19", 4, PUT, 4, PUT, 5, DROP, END_WITH);
        ends("20", 1, PUT, 4, PUT, 5, SWAP, SUBTRACT, END_WITH);
        throwsUp("20 puts two", 6, PUT, 4, PUT, 5, SWAP, DROP, DROP, DROP);
        ends("16 values", 16, join(times(16, PUT, 1), times(15, ADD), op(END_WITH)));
    }

    void jumps() {
        newCard();
        ends("21 on", 5, PUT, 5, GO, 4, PUT, 6, END_WITH);
        ends("21 back", 4,
                GO, 5, PUT, 4, END_WITH, GO, -3);
        load(0, GO, 127);
        load(127, PUT, 3, END_WITH);
        due("21 127", card.run(0, 9), DONE);
        due("its value", card.value(), 3);
        load(1, PUT, 8, END_WITH);
        method(1, 0, 129, GO, -128);
        due("21 -128", card.run(1, 9), DONE);
        due("its value", card.value(), 8);
        load(0, GO, -1);
        due("21 before code", card.run(0, 9), THROWN);
        due("throws there", card.thrown0(), 7);
        due("in the next instruction", card.used(), 2);
        method(1, 0, 509, GO, 2, NOTHING);
        due("21 to the last byte", card.run(1, 9), THROWN);
        due("and past it", card.used(), 3);
        method(1, 0, 509, GO, 3, NOTHING);
        due("21 behind code", card.run(1, 9), THROWN);
        due("throws there", card.thrown0(), 7);
        due("in the next instruction", card.used(), 2);
        due("if there is fuel", card.run(1, 1), NO_FUEL);
    }

    private void jumpIf(int c, int x, boolean jumps) {
        ends("22 " + c + " of " + x, jumps ? 1 : 2,
                join(put(x), op(GO_IF, c, 6, PUT, 2, END_WITH, PUT, 1, END_WITH)));
    }

    void jumpsIf() {
        for (int x : new int[] {-32768, -1, 0, 1, 32767}) {
            newCard();
            boolean[] holds = {x == 0, x != 0, x < 0, x >= 0, x > 0, x <= 0};
            for (int c = 0; c < 6; c++) {
                jumpIf(c, x, holds[c]);
                jumpIf(c + 6, x, holds[c]);
                jumpIf(c + 246, x, holds[c]);
            }
        }
        ends("22 back", 4, GO, 5, PUT, 4, END_WITH, PUT, 0, GO_IF, 0, -5);
        throwsUp("22 takes x", 6, PUT, 0, GO_IF, 0, 3, DROP);
    }

    private void jumpIfCompared(int c, int x, int y, boolean jumps) {
        ends("23 " + c + " of " + x + " " + y, jumps ? 1 : 2,
                join(put(x), put(y), op(GO_IF_COMPARED, c, 6, PUT, 2, END_WITH, PUT, 1, END_WITH)));
    }

    void jumpsIfCompared() {
        int[] values = {-32768, -1, 0, 5, 32767};
        for (int x : values) {
            for (int y : values) {
                newCard();
                boolean[] holds = {x == y, x != y, x < y, x >= y, x > y, x <= y};
                for (int c = 0; c < 6; c++) {
                    jumpIfCompared(c, x, y, holds[c]);
                }
                jumpIfCompared(254, x, y, x < y);
            }
        }
        throwsUp("23 takes both", 6, PUT, 1, PUT, 1, GO_IF_COMPARED, 0, 3, DROP);
        throwsUp("23 takes both otherwise", 6, PUT, 1, PUT, 2, GO_IF_COMPARED, 0, 3, DROP);
    }

    void calls() {
        newCard();
        method(15, 0, 100, PUT, 7, END_WITH);
        ends("24", 7, CALL, 15, 0, END_WITH);
        ends("24, m modulo 16", 7, CALL, 255, 0, END_WITH);
        ends("24, on behind it", 8, CALL, 15, 0, PUT, 1, ADD, END_WITH);
        ends("its own stack", 9, PUT, 2, CALL, 15, 0, ADD, END_WITH);
        method(15, 0, 100, DROP);
        throwsUp("which is empty at first", 6, PUT, 2, CALL, 15, 0);
        method(15, 0, 100, PUT, 3, PUT, 7, END_WITH);
        method(14, 0, 120, DROP);
        throwsUp("also in a frame used before", 6, CALL, 15, 0, CALL, 14, 0);
        method(1, 0, 100, LOCAL, 0, GO_IF, 0, 15, ADD_TO_LOCAL, 0, -1, LOCAL, 0, CALL, 1, 1, PUT, 1,
                ADD, END_WITH, PUT, 1, END_WITH);
        ends("8 frames", 7, PUT, 6, CALL, 1, 1, END_WITH);
        throwsUp("9 frames", 6, PUT, 7, CALL, 1, 1, END_WITH);
        method(15, 0, 100, PUT, 7);
        card.method(15, 0, 100, false);
        load(102, END_WITH);
        ends("24 asks not whether it is open", 7, CALL, 15, 0, END_WITH);
    }

    void arguments() {
        newCard();
        method(1, 0, 100, LOCAL, 0, REPLY, LOCAL, 1, REPLY, LOCAL, 7, REPLY, END);
        run(PUT, 5, PUT, 6, CALL, 1, 2, END);
        replies("the last one on top", 5, 6, 0);
        run(PUT, 9, PUT, 5, PUT, 6, CALL, 1, 2, END_WITH);
        due("they are taken", card.value(), 9);
        run(join(times(8, PUT, 3), op(PUT, 4, PUT, 5, CALL, 1, 11, END_WITH)));
        replies("n modulo 9", 4, 5, 0);
        run(join(times(7, PUT, 3), op(PUT, 4, CALL, 1, 8, END)));
        replies("8 arguments", 3, 3, 4);
        run(join(times(7, PUT, 3), op(PUT, 4, CALL, 1, 9, END_WITH)));
        replies("n 9 is none", 0, 0, 0);
        due("and takes none", card.value(), 4);
        throwsUp("too few arguments", 6, PUT, 5, CALL, 1, 2);
        throwsUp("too few of 8", 6, join(times(7, PUT, 3), op(CALL, 1, 8)));
    }

    void callsOfOthers() {
        newCard();
        method(2, 2, 100, ROOT, OWNER, END_WITH);
        throwsUp("24, of another owner", 4, CALL, 2, 0);
        throwsUpFor(1, "24, of another owner", 4, CALL, 2, 0);
        ends("27", 2, CALL_OPEN, 2, 0, END_WITH);
        ends("27, m modulo 16", 2, CALL_OPEN, 34, 0, END_WITH);
        method(3, 2, 120, LOCAL, 0, LOCAL, 1, SUBTRACT, END_WITH);
        ends("27, arguments", -1, PUT, 8, PUT, 9, CALL_OPEN, 3, 2, END_WITH);
        ends("this owner again behind it", 0, CALL_OPEN, 2, 0, DROP, ROOT, OWNER, END_WITH);
        card.method(2, 2, 100, false);
        throwsUp("27, not open", 4, CALL_OPEN, 2, 0);
        throwsUpFor(2, "27, not open, of this owner", 4, CALL_OPEN, 2, 0);
        due("24, of this owner", runOf(2, CALL, 2, 0, END_WITH), DONE);
        due("its value", card.value(), 2);
        method(2, 2, 100, CALL, 3, 0, END_WITH);
        ends("24 is asked of the frame's owner", 0, CALL_OPEN, 2, 0, END_WITH);
        method(3, 0, 120, END);
        throwsUp("not of the first one's", 4, CALL_OPEN, 2, 0);
    }

    void ends() {
        newCard();
        method(1, 0, 100, PUT, 9, END);
        throwsUp("25 puts nothing", 6, CALL, 1, 0, DROP);
        method(1, 0, 100, PUT, 8, PUT, 9, END_WITH);
        ends("26 puts the last", 9, CALL, 1, 0, END_WITH);
        throwsUp("and that alone", 6, CALL, 1, 0, DROP, DROP);
        int[] full = times(16, PUT, 1);
        throwsUp("26 to a full stack", 6, join(full, op(CALL, 1, 0)));
        due("its frame ends all the same",
                run(join(op(HANDLE, 39), full, op(CALL, 1, 0, NOTHING, NOTHING, NOTHING, DOUBLE, END_WITH))),
                DONE);
        due("and the caller has it", card.value(), 6);
        method(1, 0, 100, HANDLE, 4, PUT, 9, END_WITH);
        throwsUp("not the frame that ended", 6, join(full, op(CALL, 1, 0)));
        ends("with room by an argument", 9,
                join(times(16, PUT, 1), op(CALL, 1, 1, END_WITH)));
        method(1, 0, 100, END);
        ends("25 to a full stack", 1, join(full, op(CALL, 1, 0, END_WITH)));
    }

    void newObjects() {
        newCard();
        ends("28", 5, NEW_SHORTS, 3, END_WITH);
        ends("29", 6, NEW_BYTES, 16, END_WITH);
        due("28 is SHORTS", card.told(5, 1), 0);
        due("28 has n cells", card.told(5, 2), 3);
        due("29 is BYTES", card.told(6, 1), 1);
        due("29 has n cells", card.told(6, 2), 16);
        runOf(3, NEW_BYTES, 1, END);
        due("of this owner", card.told(7, 0), 3);
        for (int n : new int[] {0, 17, 255}) {
            throwsUp("28 with n " + n, 8, NEW_SHORTS, n);
            throwsUp("29 with n " + n, 8, NEW_BYTES, n);
        }
        due("none of them new", card.objects(), 7);
        // 32 cells of the roots and 20: 188 are left, for 11 objects of 16 and 12 cells.
        run(join(times(11, NEW_SHORTS, 16, DROP), op(END)));
        throwsUp("28, 13 cells for 12", 8, NEW_SHORTS, 13);
        throwsUp("29, 13 cells for 12", 8, NEW_BYTES, 13);
        ends("28, 12 cells for 12", 19, NEW_SHORTS, 12, END_WITH);
        throwsUp("28, 1 cell for 0", 8, NEW_SHORTS, 1);
        newCard();
        due("36 new objects", run(join(times(36, NEW_BYTES, 1, DROP), op(END))), DONE);
        throwsUp("28, a 41st object", 8, NEW_SHORTS, 1);
        due("40 objects", card.objects(), 40);
    }

    void cells() {
        newCard();
        ends("31 and 30", 300, join(op(ROOT, PUT, 7), put(300), op(WRITE, ROOT, PUT, 7, READ, END_WITH)));
        due("31 to the cell", card.cell(1, 7), 300);
        due("and to no other", card.cell(1, 6), 0);
        due("nor of another", card.cell(2, 0), 0);
        throwsUp("30, cell 8", 3, ROOT, PUT, 8, READ);
        throwsUp("30, cell -1", 3, ROOT, PUT, -1, READ);
        throwsUp("31, cell 8", 3, ROOT, PUT, 8, PUT, 1, WRITE);
        throwsUp("31, cell -1", 3, ROOT, PUT, -1, PUT, 1, WRITE);
        due("no neighbour is written", card.cell(2, 0), 0);
        throwsUp("31 takes three", 6, ROOT, PUT, 1, PUT, 1, WRITE, DROP);
        throwsUp("30 puts one", 6, ROOT, PUT, 1, READ, DROP, DROP);
    }

    void bytesAndShorts() {
        newCard();
        ends("BYTES: lowest byte", -128, join(op(NEW_BYTES, 2, SET_LOCAL, 0, LOCAL, 0, PUT, 1), put(0x1280),
                op(WRITE, LOCAL, 0, PUT, 1, READ, END_WITH)));
        due("cell of BYTES", card.cell(5, 1), -128);
        ends("BYTES: 127", 127, join(op(PUT, 5, PUT, 1), put(-129), op(WRITE, PUT, 5, PUT, 1, READ, END_WITH)));
        ends("SHORTS: all", -129, join(op(ROOT, PUT, 1), put(-129), op(WRITE, ROOT, PUT, 1, READ, END_WITH)));
    }

    void sizesAndOwners() {
        newCard();
        ends("32", 8, ROOT, SIZE, END_WITH);
        ends("32 of BYTES", 3, NEW_BYTES, 3, SIZE, END_WITH);
        ends("32 of one cell", 1, NEW_BYTES, 1, SIZE, END_WITH);
        for (int owner = 0; owner < 4; owner++) {
            due("33", runOf(owner, ROOT, END_WITH), DONE);
            due("the root", card.value(), owner + 1);
            due("34", runOf(owner, PUT, 3, OWNER, END_WITH), DONE);
            due("of any object", card.value(), 2);
        }
    }

    void copies() {
        newCard();
        // 5 and 6 are BYTES; 5 holds 1, 2, 3, 4.
        run(join(op(NEW_BYTES, 4, NEW_BYTES, 6), fill(5, 1, 2, 3, 4), op(END)));
        run(copyAndEnd(5, 1, 6, 3, 3));
        holds("35", 6, 0, 0, 0, 2, 3, 4);
        run(copyAndEnd(5, 0, 6, 0, 4));
        holds("35, all", 6, 1, 2, 3, 4, 3, 4);
        holds("the source stays", 5, 1, 2, 3, 4);
        for (int[] none : new int[][] {{0, 0}, {4, 0}, {0, 6}, {4, 6}}) {
            due("35, n 0", run(copyAndEnd(5, none[0], 6, none[1], 0)), DONE);
        }
        holds("n 0 copies nothing", 6, 1, 2, 3, 4, 3, 4);
        copyThrows(3, 5, 5, 6, 0, 0);
        copyThrows(3, 5, 0, 6, 7, 0);
        copyThrows(3, 5, -1, 6, 0, 0);
        copyThrows(3, 5, 0, 6, -1, 0);
        copyThrows(3, 5, -1, 6, 0, 2);
        copyThrows(3, 5, 0, 6, -1, 2);
        copyThrows(3, 5, 0, 6, 0, 5);
        copyThrows(3, 5, 2, 6, 0, 3);
        copyThrows(3, 6, 0, 5, 0, 5);
        copyThrows(3, 5, 0, 6, 4, 3);
        copyThrows(3, 5, 0, 6, 0, 32767);
        copyThrows(3, 5, 32767, 6, 32767, 32767);
        copyThrows(8, 5, 0, 6, 0, -1);
        copyThrows(8, 5, 0, 6, 0, -32768);
        copyThrows(11, 1, 0, 6, 0, 1);
        copyThrows(11, 5, 0, 1, 0, 1);
        copyThrows(2, 0, 0, 6, 0, 1);
        copyThrows(2, 5, 0, 7, 0, 1);
        holds("what throws copies nothing", 6, 1, 2, 3, 4, 3, 4);
        throwsUp("35 takes five", 6, join(copy(5, 0, 6, 0, 1), op(DROP)));
    }

    void copiesThatOverlap() {
        newCard();
        run(join(op(NEW_BYTES, 5), fill(5, 1, 2, 3, 4, 5), op(END)));
        run(copyAndEnd(5, 0, 5, 1, 4));
        holds("the least first", 5, 1, 1, 1, 1, 1);
        run(join(fill(5, 1, 2, 3, 4, 5), op(END)));
        run(copyAndEnd(5, 1, 5, 0, 4));
        holds("and downwards", 5, 2, 3, 4, 5, 5);
        run(copyAndEnd(5, 0, 5, 0, 5));
        holds("onto itself", 5, 2, 3, 4, 5, 5);
    }

    private static int[] fill(int object, int... values) {
        int[] all = new int[0];
        for (int i = 0; i < values.length; i++) {
            all = join(all, op(PUT, object, PUT, i, PUT, values[i], WRITE));
        }
        return all;
    }

    private static int[] copyAndEnd(int source, int from, int target, int to, int n) {
        return join(copy(source, from, target, to, n), op(END));
    }

    private void copyThrows(int thrown, int source, int from, int target, int to, int n) {
        throwsUp("35 " + source + " " + from + " " + target + " " + to + " " + n, thrown,
                copyAndEnd(source, from, target, to, n));
    }

    private void holds(String what, int object, int... values) {
        for (int i = 0; i < values.length; i++) {
            due(what + ": cell " + i, card.cell(object, i), values[i]);
        }
        due(what + ": size", card.told(object, 2), values.length);
    }

    void transactions() {
        newCard();
        ends("39, none open", 0, IS_OPEN, END_WITH);
        ends("39, one open", 1, OPEN, IS_OPEN, END_WITH);
        ends("37", 0, OPEN, CLOSE, IS_OPEN, END_WITH);
        ends("38", 0, OPEN, UNDO, IS_OPEN, END_WITH);
        ends("36 again", 1, OPEN, CLOSE, OPEN, UNDO, OPEN, IS_OPEN, END_WITH);
        method(1, 0, 100, OPEN, END);
        ends("36 in another frame", 1, CALL, 1, 0, IS_OPEN, END_WITH);
        throwsUp("36 twice", 9, OPEN, OPEN);
        throwsUp("37 without", 9, CLOSE);
        throwsUp("38 without", 9, UNDO);
        throwsUp("37 twice", 9, OPEN, CLOSE, CLOSE);
    }

    void command() {
        newCard();
        int[] bytes = {0, 127, 128, 255, 65};
        for (int b : bytes) {
            card.type(b);
        }
        run(PUT, 0, COMMAND, REPLY, PUT, 3, COMMAND, REPLY, PUT, 4, COMMAND, REPLY, COMMAND_LENGTH, REPLY,
                PUT, 2, COMMAND, END_WITH);
        replies("40 and 41", 0, 255, 65, 5);
        due("40, with sign", card.value(), -128);
        card.type(1);
        throwsUp("40, behind the last", 3, PUT, 1, COMMAND);
        card.type(1);
        throwsUp("40, -1", 3, PUT, -1, COMMAND);
        throwsUp("40, an empty one", 3, PUT, 0, COMMAND);
        ends("41, an empty one", 0, COMMAND_LENGTH, END_WITH);
        due("42, 32 bytes", run(join(times(32, PUT, 7, REPLY), op(END))), DONE);
        due("byte 31", card.reply(31), 7);
        throwsUp("42, 33 bytes", 6, times(33, PUT, 7, REPLY));
        due("byte 31 for 33", card.reply(31), 7);
    }

    void handlers() {
        newCard();
        ends("43 and 44", 7, HANDLE, 5, PUT, 7, THROW, END_WITH);
        ends("44 back", 7, GO, 3, END_WITH, HANDLE, -1, PUT, 7, THROW);
        ends("44, the latest", 8, HANDLE, 9, HANDLE, 5, PUT, 7, THROW, PUT, 1, ADD, END_WITH);
        throwsUp("45", 7, HANDLE, 6, HANDLE_NOT, PUT, 7, THROW, END);
        throwsUp("45 without one", 7, HANDLE_NOT, PUT, 7, THROW);
        ends("44 without a throw", 3, HANDLE, 9, PUT, 3, END_WITH);
        throwsUp("43 with nothing", 6, THROW);
    }

    /** Each instruction takes as many bytes as it should, for the place behind it and for 7. */
    void lengths() {
        int[] lengths = new int[46];
        for (int k = 0; k < 46; k++) {
            lengths[k] = 1;
        }
        for (int k : new int[] {1, 3, 4, 21, 28, 29, 44}) {
            lengths[k] = 2;
        }
        for (int k : new int[] {2, 5, 22, 23, 24, 27}) {
            lengths[k] = 3;
        }
        for (int k = 0; k < 46; k++) {
            newCard();
            load(512 - lengths[k], k);
            card.method(1, 0, 512 - lengths[k], true);
            card.run(1, 1);
            due("7 for all of " + k, card.thrown0() == 7 ? 1 : 0, 0);
            if (lengths[k] > 1) {
                load(513 - lengths[k], k);
                card.method(1, 0, 513 - lengths[k], true);
                due("run of " + k + " cut off", card.run(1, 9), THROWN);
                due("what it throws, " + k, card.thrown0(), 7);
                due("used for it, " + k, card.used(), 1);
            }
        }
        for (int k = 46; k < 256; k++) {
            newCard();
            throwsUp("no instruction " + k, 7, k);
        }
    }
}
