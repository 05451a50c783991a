/**
 * The numbers under "Terms" that are no instruction's: each at its boundary, one below it and one
 * above it. The comment of a test is the document's sentence.
 */
final class TermsEdgesTest extends CardChecks {
    private static final int[] KINDS = {NEW_SHORTS, NEW_BYTES};

    public static void main(String[] args) {
        TermsEdgesTest test = new TermsEdgesTest();
        test.calls();
        test.owners();
        test.cardItself();
        test.codeBytes();
        test.methodsAtFirst();
        test.methodsEach();
        test.objectNumbers();
        test.objectsOfAllOwners();
        test.sorts();
        test.cellsOfAnObject();
        test.cellsAtFirst();
        test.cellsTogether();
        test.cellsTogetherOfAll();
        test.references();
        test.roots();
        test.values();
        test.localsModulo();
        test.localsAtFirst();
        test.stack();
        test.stackOfItsOwn();
        test.frames();
        test.handlerAtFirst();
        test.end();
    }

    /** An object is used for at most 512 calls after it has been made. */
    void calls() {
        newCard();
        load(0, ADD_TO_LOCAL, 0, 1, ROOT, PUT, 0, LOCAL, 0, WRITE, GO, -9);
        while (card.callsLeft() > 1) {
            due("call " + (513 - card.callsLeft()), card.run(0, 3000), NO_FUEL);
        }
        due("the 512th call", card.cell(1, 0), 500);
    }

    /** OWNERS are 0 .. 3. */
    void owners() {
        newCard();
        load(0, ROOT, END_WITH);
        for (int owner = 0; owner <= 3; owner++) {
            due("owner " + owner, card.method(1, owner, 0, true), 1);
            card.run(1, 2);
            due("the root of owner " + owner, card.value(), owner + 1);
            due("owner -1", card.method(1, -1, 0, true), BAD);
            due("owner 4", card.method(1, 4, 0, true), BAD);
            card.run(1, 2);
            due("it stays with owner " + owner, card.value(), owner + 1);
        }
    }

    /** 0 is the card itself. */
    void cardItself() {
        newCard();
        for (int owner = 0; owner <= 3; owner++) {
            for (int object = 1; object <= 4; object++) {
                boolean may = owner == 0 || object == owner + 1;
                due("owner " + owner + " with object " + object, runOf(owner, PUT, object, SIZE, END),
                        may ? DONE : THROWN);
                due("is thrown", card.thrown0(), may ? 0 : 4);
            }
        }
    }

    /** CODE has 512 bytes. */
    void codeBytes() {
        newCard();
        due("byte -1", card.code(-1, END), BAD);
        due("byte 0", card.code(0, END), 1);
        due("byte 511", card.code(511, END), 1);
        due("byte 512", card.code(512, END), BAD);
        due("byte 0 is code", card.run(0, 1), DONE);
        card.method(1, 0, 511, true);
        due("byte 511 is code", card.run(1, 1), DONE);
        card.code(511, NOTHING);
        due("byte 512 is none", card.run(1, 2), THROWN);
        due("which throws", card.thrown0(), 7);
        due("in an instruction of its own", card.used(), 2);
        due("behind the fuel for byte 511", card.run(1, 1), NO_FUEL);
    }

    /** METHODS are 0 .. 15 (at first: owner 0, byte 0, not open). */
    void methodsAtFirst() {
        for (int m = 0; m <= 15; m++) {
            newCard();
            load(0, PUT, 5, REPLY, ROOT, END_WITH);
            due("method " + m, card.run(m, 9), DONE);
            replies("begins at byte 0", 5);
            due("is owner 0's", card.value(), 1);
            int other = m == 15 ? 14 : 15;
            method(other, 0, 100, CALL_OPEN, m, 0, END);
            due("a call of method " + m, card.run(other, 9), THROWN);
            due("which is not open", card.thrown0(), 4);
        }
        due("run of method -1", card.run(-1, 9), BAD);
        due("run of method 16", card.run(16, 9), BAD);
        due("method -1", card.method(-1, 0, 0, true), BAD);
        due("method 16", card.method(16, 0, 0, true), BAD);
    }

    /** Each has an owner, begins at a byte of code, and is OPEN to others or not. */
    void methodsEach() {
        newCard();
        for (int m = 0; m <= 15; m++) {
            load(8 * m, PUT, m, REPLY, ROOT, END_WITH);
            due("method " + m, card.method(m, m % 4, 8 * m, m % 3 == 0), 1);
        }
        for (int m = 0; m <= 15; m++) {
            due("run of method " + m, card.run(m, 9), DONE);
            due("its place", card.reply(0), m);
            due("its owner", card.value(), m % 4 + 1);
        }
        for (int m = 1; m <= 15; m++) {
            method(0, 0, 200, CALL_OPEN, m, 0, END);
            due("a call of method " + m, card.run(0, 9), m % 3 == 0 ? DONE : THROWN);
        }
    }

    /** OBJECTS are numbered from 1, at most 40. */
    void objectNumbers() {
        for (int kind : KINDS) {
            newCard();
            due("object 0", card.told(0, 2), BAD);
            due("object 1", card.told(1, 2), 8);
            due("35 new ones", run(join(times(35, kind, 1, DROP), op(END))), DONE);
            due("39", card.objects(), 39);
            due("object 40 before it is new", card.told(40, 2), BAD);
            ends("object 40", 40, kind, 1, END_WITH);
            due("40", card.objects(), 40);
            due("object 40 of 40", card.told(40, 2), 1);
            due("object 41 of 40", card.told(41, 2), BAD);
            throwsUp("a 41st", 8, kind, 1);
            due("40 still", card.objects(), 40);
            ends("object 40 holds a value", -7, join(write(40, 0, -7), op(PUT, 40, PUT, 0, READ, END_WITH)));
            due("and object 39 has its own", card.cell(39, 0), 0);
            throwsUp("object 41 holds none", 2, write(41, 0, -7));
            due("cell of object 41", card.cell(41, 0), 0);
        }
    }

    /** OBJECTS ..., at most 40: those of all owners, of both sorts. */
    void objectsOfAllOwners() {
        newCard();
        for (int owner = 0; owner <= 3; owner++) {
            due("9 of owner " + owner, runOf(owner, join(times(4, NEW_SHORTS, 1, DROP, NEW_BYTES, 2, DROP),
                    op(NEW_BYTES, 1, END_WITH))), DONE);
            due("the ninth", card.value(), 4 + 9 * (owner + 1));
        }
        for (int owner = 0; owner <= 3; owner++) {
            throwsUpFor(owner, "a 41st of owner " + owner, 8, NEW_SHORTS, 1);
        }
        due("objects", card.objects(), 40);
    }

    /** A SORT (0 SHORTS, 1 BYTES). */
    void sorts() {
        newCard();
        run(NEW_SHORTS, 2, NEW_BYTES, 2, END);
        due("SHORTS", card.told(5, 1), 0);
        due("BYTES", card.told(6, 1), 1);
        run(join(write(5, 1, 128), write(6, 1, 128), op(END)));
        due("SHORTS hold values", card.cell(5, 1), 128);
        due("BYTES hold bytes", card.cell(6, 1), -128);
    }

    /** 1 .. 16 CELLS. */
    void cellsOfAnObject() {
        for (int kind : KINDS) {
            newCard();
            throwsUp("no cells", 8, kind, 0);
            due("no object of no cells", card.objects(), 4);
            for (int n : new int[] {1, 2, 15, 16}) {
                int object = card.objects() + 1;
                ends(n + " cells", object, kind, n, END_WITH);
                due("how many", card.told(object, 2), n);
                due("the last", run(join(write(object, n - 1, 9), op(END))), DONE);
                due("is written", card.cell(object, n - 1), 9);
                throwsUp("one behind the last", 3, write(object, n, 9));
            }
            throwsUp("17 cells", 8, kind, 17);
            throwsUp("255 cells", 8, kind, 255);
            due("no object of 17", card.objects(), 8);
        }
    }

    /** 1 .. 16 CELLS, at first 0. */
    void cellsAtFirst() {
        for (int kind : KINDS) {
            newCard();
            int[] fill = new int[0];
            for (int i = 0; i < 16; i++) {
                fill = join(fill, write(5, i, -1));
            }
            run(join(op(OPEN, kind, 16, DROP), fill, op(UNDO, END)));
            run(kind, 16, END);
            for (int i = 0; i < 16; i++) {
                due("cell " + i, card.cell(5, i), 0);
                ends("cell " + i + ", read", 0, PUT, 5, PUT, i, READ, END_WITH);
            }
        }
    }

    /** Makes 207 cells, so that there are 239 with those of the roots. */
    private void make239Cells(int kind) {
        newCard();
        due("12 of 16 cells and one of 15",
                run(join(times(12, kind, 16, DROP), op(kind, 15, END))), DONE);
    }

    /** Cells of all together at most 240. */
    void cellsTogether() {
        for (int kind : KINDS) {
            make239Cells(kind);
            throwsUp("2 cells for 1", 8, kind, 2);
            throwsUp("16 cells for 1", 8, kind, 16);
            due("what throws makes none", card.objects(), 17);
            ends("1 cell for 1", 18, kind, 1, END_WITH);
            throwsUp("1 cell for 0", 8, kind, 1);
            due("18 objects", card.objects(), 18);
            due("the 240th cell", run(join(write(18, 0, 5), op(END))), DONE);
            due("holds a value", card.cell(18, 0), 5);
            due("the 239th has its own", card.cell(17, 14), 0);
            newCard();
            due("13 of 16 cells", run(join(times(13, kind, 16, DROP), op(END))), DONE);
            throwsUp("a 241st", 8, kind, 1);
            due("17 objects", card.objects(), 17);
        }
    }

    /** Cells of all together: of all owners, of both sorts. */
    void cellsTogetherOfAll() {
        for (int owner = 0; owner <= 3; owner++) {
            make239Cells(NEW_BYTES);
            throwsUpFor(owner, "2 SHORTS for 1", 8, NEW_SHORTS, 2);
            due("1 of SHORTS for 1", runOf(owner, NEW_SHORTS, 1, END), DONE);
            throwsUpFor(owner, "1 of SHORTS for 0", 8, NEW_SHORTS, 1);
            throwsUpFor(owner, "1 of BYTES for 0", 8, NEW_BYTES, 1);
        }
    }

    /** A REFERENCE is an object's number; 0 is none. */
    void references() {
        newCard();
        for (int r : new int[] {-32768, -1, 0, 5, 255, 256, 257, 32767}) {
            throwsUp("reference " + r, 2, join(put(r), op(SIZE)));
        }
        ends("reference 1", 8, PUT, 1, SIZE, END_WITH);
        ends("reference 4", 8, PUT, 4, SIZE, END_WITH);
        run(NEW_BYTES, 3, END);
        ends("reference 5 of 5", 3, PUT, 5, SIZE, END_WITH);
        throwsUp("reference 6 of 5", 2, PUT, 6, SIZE);
    }

    /** Each owner has a ROOT: ... SHORTS with 8 cells, there from the first. */
    void roots() {
        newCard();
        for (int owner = 0; owner <= 3; owner++) {
            int root = owner + 1;
            due("its owner", card.told(root, 0), owner);
            due("its sort", card.told(root, 1), 0);
            due("its size", card.told(root, 2), 8);
            due("33", runOf(owner, ROOT, END_WITH), DONE);
            due("is the root of " + owner, card.value(), root);
            due("cells 0 and 7", runOf(owner, join(write(root, 0, 300 + root), write(root, 7, 400 + root),
                    op(END))), DONE);
            throwsUpFor(owner, "cell 8", 3, write(root, 8, 5));
            throwsUpFor(owner, "cell -1", 3, write(root, -1, 5));
        }
        for (int root = 1; root <= 4; root++) {
            due("cell 0", card.cell(root, 0), 300 + root);
            due("cell 7", card.cell(root, 7), 400 + root);
        }
        due("no more than these", card.objects(), 4);
    }

    private void two(int instruction, int x, int y, int want) {
        ends(x + " " + y + " " + instruction, want, join(put(x), put(y), op(instruction, END_WITH)));
    }

    /** VALUES are numbers of 16 bits with sign (-32768 .. 32767); results are cut to these. */
    void values() {
        newCard();
        two(ADD, 32766, 1, 32767);
        two(ADD, 32767, 1, -32768);
        two(ADD, -32767, -1, -32768);
        two(ADD, -32768, -1, 32767);
        two(ADD, -32768, -32768, 0);
        two(SUBTRACT, -32767, 1, -32768);
        two(SUBTRACT, -32768, 1, 32767);
        two(SUBTRACT, 32766, -1, 32767);
        two(SUBTRACT, 32767, -1, -32768);
        two(MULTIPLY, 16383, 2, 32766);
        two(MULTIPLY, 16384, 2, -32768);
        two(MULTIPLY, -16384, 2, -32768);
        two(MULTIPLY, -16385, 2, 32766);
        two(MULTIPLY, 32767, 32767, 1);
        two(DIVIDE, -32767, -1, 32767);
        two(DIVIDE, -32768, -1, -32768);
        two(REMAINDER, -32768, -1, 0);
        two(SHIFT_LEFT, 1, 14, 16384);
        two(SHIFT_LEFT, 1, 15, -32768);
        two(SHIFT_LEFT, 3, 15, -32768);
        two(SHIFT_BITS_RIGHT, -1, 0, -1);
        two(SHIFT_BITS_RIGHT, -1, 1, 32767);
        ends("- -32767", 32767, join(put(-32767), op(NEGATE, END_WITH)));
        ends("- -32768", -32768, join(put(-32768), op(NEGATE, END_WITH)));
        int[][] sums = {{32640, 127, 32767}, {32641, 127, -32768}, {-32640, -128, -32768},
            {-32641, -128, 32767}};
        for (int[] sum : sums) {
            ends("local " + sum[0] + " and " + sum[1], sum[2],
                    join(put(sum[0]), op(SET_LOCAL, 0, ADD_TO_LOCAL, 0, sum[1], LOCAL, 0, END_WITH)));
        }
    }

    /** A FRAME has ... 8 LOCALS; local k (modulo 8). */
    void localsModulo() {
        for (int k : new int[] {0, 1, 7, 8, 9, 15, 16, 127, 128, 255}) {
            newCard();
            int[] all = new int[0];
            for (int local = 0; local < 8; local++) {
                all = join(all, op(LOCAL, local, REPLY));
            }
            int[] want = new int[8];
            want[k % 8] = 50;
            run(join(op(PUT, 50, SET_LOCAL, k), all, op(LOCAL, k, END_WITH)));
            replies("4 " + k, want);
            due("3 " + k, card.value(), 50);
            run(join(op(ADD_TO_LOCAL, k, 50), all, op(END)));
            replies("5 " + k, want);
        }
    }

    /** 8 LOCALS (0 at first). */
    void localsAtFirst() {
        newCard();
        for (int k = 0; k < 8; k++) {
            method(1, 0, 100, LOCAL, k, PUT, 9, SET_LOCAL, k, END_WITH);
            due("run", card.run(1, 9), DONE);
            due("local " + k, card.value(), 0);
            ends("local " + k + " of a called frame", 0, PUT, 8, SET_LOCAL, k, CALL, 1, 0, END_WITH);
            ends("local " + k + " behind a call", 8, PUT, 8, SET_LOCAL, k, CALL, 1, 0, LOCAL, k, END_WITH);
        }
    }

    /** Its own STACK of at most 16 values. */
    void stack() {
        newCard();
        for (int n = 15; n <= 16; n++) {
            ends(n + " values", n, join(times(n, PUT, 1), times(n - 1, ADD), op(END_WITH)));
        }
        throwsUp("17 values", 6, times(17, PUT, 1));
        due("at the 17th", card.used(), 17);
        int[] order = new int[0];
        for (int k = 1; k <= 16; k++) {
            order = join(order, op(PUT, k));
        }
        run(join(order, times(16, REPLY), op(END)));
        replies("the last one first", 16, 15, 14, 13, 12, 11, 10, 9, 8, 7, 6, 5, 4, 3, 2, 1);
        throwsUp("16 values and no more", 6, join(times(16, PUT, 1), times(17, DROP)));
        due("at the 17th that is taken", card.used(), 33);
    }

    /** A FRAME has ... its own STACK. */
    void stackOfItsOwn() {
        newCard();
        method(1, 0, 100, join(times(16, PUT, 2), times(16, DROP), op(END)));
        ends("16 values in each of two frames", 1, join(times(16, PUT, 1), op(CALL, 1, 0, END_WITH)));
        method(1, 0, 100, times(17, PUT, 2));
        throwsUp("17 values in a called frame", 6, CALL, 1, 0);
        method(1, 0, 100, DROP, END);
        throwsUp("none in a called frame at first", 6, PUT, 1, PUT, 1, CALL, 1, 0);
    }

    /** There are at most 8 frames. */
    void frames() {
        for (int call : new int[] {CALL, CALL_OPEN}) {
            newCard();
            // Each frame calls the next while its local 0 is above 0, and counts them.
            method(1, 0, 100, LOCAL, 0, GO_IF, 5, 15, ADD_TO_LOCAL, 0, -1, LOCAL, 0, call, 1, 1, PUT, 1,
                    ADD, END_WITH, PUT, 1, END_WITH);
            ends("7 frames", 6, PUT, 5, call, 1, 1, END_WITH);
            ends("8 frames", 7, PUT, 6, call, 1, 1, END_WITH);
            throwsUp("9 frames", 6, PUT, 7, call, 1, 1);
            ends("8 frames behind 9", 7, PUT, 6, call, 1, 1, END_WITH);
            ends("8 frames twice", 14, PUT, 6, call, 1, 1, PUT, 6, call, 1, 1, ADD, END_WITH);
        }
    }

    /** A HANDLER (none at first). */
    void handlerAtFirst() {
        newCard();
        method(1, 0, 100, PUT, 9, THROW, PUT, 1, END_WITH);
        due("of the first frame", card.run(1, 9), THROWN);
        ends("of a called one, when its caller has one", 9, HANDLE, 6, CALL, 1, 0, DROP, END_WITH);
    }
}
