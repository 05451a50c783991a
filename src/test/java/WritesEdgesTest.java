/**
 * The boundary cases of writes, tears and what is undone. The comment of a test is the document's
 * sentence.
 */
final class WritesEdgesTest extends CardChecks {
    public static void main(String[] args) {
        WritesEdgesTest test = new WritesEdgesTest();
        test.oneWriteEach();
        test.oneWriteForEachCell();
        test.noWrites();
        test.writesThatThrow();
        test.tearBehindWrites();
        test.tearOfEachKind();
        test.tearIsMetOnce();
        test.tearInCalledFrame();
        test.powerComesAgain();
        test.commandEndsOpen();
        test.undoneCells();
        test.undoneCellsOfAllThings();
        test.undoneToBeforeTheFirst();
        test.undoneObjects();
        test.undoneNumbersAndCells();
        test.undoneWithoutCopies();
        test.undoneInCopiedOrder();
        test.wholeStays();
        test.end();
    }

    private static final int[] CELL_OF_ROOT = write(1, 0, 1);

    /** BYTES 5 and 6 with 16 cells each. */
    private void cardWithBytes() {
        newCard();
        due("BYTES", run(NEW_BYTES, 16, NEW_BYTES, 16, END), DONE);
    }

    /** A code that writes so often: a tear is met one below it, and stays for what is behind it. */
    private void writes(String what, int writes, int[] code) {
        for (int n = Math.max(0, writes - 1); n <= writes + 1; n++) {
            cardWithBytes();
            card.tear(n);
            due(what + " with a tear behind " + n, run(join(code, op(END))), n < writes ? OFF : DONE);
            for (int k = writes; k < n; k++) {
                due(what + ": a write behind it", run(join(CELL_OF_ROOT, op(END))), DONE);
            }
            if (n >= writes) {
                due(what + ": the torn one", run(join(CELL_OF_ROOT, op(END))), OFF);
            }
        }
    }

    /** WRITES are: 31 (one), 28, 29 (one each), 37 (one). */
    void oneWriteEach() {
        writes("31", 1, write(2, 7, 5));
        writes("31 of BYTES", 1, write(5, 15, 5));
        writes("31 of what the cell has", 1, write(2, 7, 0));
        writes("28 of 1 cell", 1, op(NEW_SHORTS, 1));
        writes("28 of 16 cells", 1, op(NEW_SHORTS, 16));
        writes("29 of 1 cell", 1, op(NEW_BYTES, 1));
        writes("29 of 16 cells", 1, op(NEW_BYTES, 16));
        writes("37 of nothing", 1, op(OPEN, CLOSE));
        writes("37 of one thing", 2, join(op(OPEN), write(2, 7, 5), op(CLOSE)));
        writes("37 of 20 things", 21, join(op(OPEN), times(20, CELL_OF_ROOT), op(CLOSE)));
        writes("two of 37", 2, op(OPEN, CLOSE, OPEN, CLOSE));
    }

    /** 35 (one for each cell). */
    void oneWriteForEachCell() {
        for (int n : new int[] {0, 1, 2, 15, 16}) {
            writes("35 of " + n, n, copy(5, 0, 6, 0, n));
            writes("35 onto itself of " + n, n, copy(5, 0, 5, 0, n));
            writes("35 in a transaction of " + n, n + 1, join(op(OPEN), copy(5, 0, 6, 0, n), op(CLOSE)));
        }
    }

    /** WRITES are these, and nothing else. */
    void noWrites() {
        writes("36", 0, op(OPEN));
        writes("38", 0, op(OPEN, UNDO));
        writes("39", 0, op(IS_OPEN));
        writes("30 and 32 to 34", 0, op(ROOT, PUT, 0, READ, ROOT, SIZE, ROOT, OWNER));
        writes("locals", 0, op(PUT, 5, SET_LOCAL, 0, ADD_TO_LOCAL, 0, 1, LOCAL, 0));
        writes("42 and 41", 0, op(COMMAND_LENGTH, REPLY));
        writes("what undoes one thing", 1, join(op(OPEN), CELL_OF_ROOT, op(UNDO)));
        writes("what undoes 20 things", 20, join(op(OPEN), times(20, CELL_OF_ROOT), op(UNDO)));
        writes("a command's end", 3, join(op(OPEN, NEW_SHORTS, 2, DROP), times(2, CELL_OF_ROOT)));
    }

    /** What throws does nothing else: it is no write. */
    void writesThatThrow() {
        writes("31 that throws 2", 0, taking(write(0, 0, 1)));
        writes("31 that throws 3", 0, taking(write(1, 8, 1)));
        writes("31 that throws 5", 20, join(op(OPEN), times(20, CELL_OF_ROOT), taking(CELL_OF_ROOT)));
        writes("31 that throws 6", 0, taking(WRITE));
        writes("28 that throws 8", 0, taking(NEW_SHORTS, 17));
        writes("29 that throws 8", 0, taking(NEW_BYTES, 0));
        writes("28 that throws 6", 0, taking(join(times(16, PUT, 1), op(NEW_SHORTS, 1))));
        writes("29 that throws 6", 0, taking(join(times(16, PUT, 1), op(NEW_BYTES, 1))));
        writes("37 that throws 9", 0, taking(CLOSE));
        writes("35 that throws 3", 0, taking(copy(5, 0, 6, 15, 2)));
        writes("35 that throws 8", 0, taking(copy(5, 0, 6, 0, -1)));
        writes("35 that throws 11", 0, taking(copy(5, 0, 1, 0, 1)));
    }

    /** When a TEAR is set after n writes, the next n are done, the one behind them is not. */
    void tearBehindWrites() {
        for (int n = 0; n <= 8; n++) {
            newCard();
            due("tear", card.tear(n), 1);
            int[] all = new int[0];
            for (int i = 0; i < 8; i++) {
                all = join(all, write(2, i, 50 + i));
            }
            due("8 writes with a tear behind " + n, run(join(all, op(END))), n < 8 ? OFF : DONE);
            due("the power", card.objects(), n < 8 ? BAD : 4);
            due("reset", card.reset(), 0);
            for (int i = 0; i < 8; i++) {
                due("write " + i + " of " + n, card.cell(2, i), i < n ? 50 + i : 0);
            }
        }
    }

    /** The one behind them is not done, whatever it is. */
    void tearOfEachKind() {
        int[][] kinds = {write(2, 3, 5), {NEW_SHORTS, 3}, {NEW_BYTES, 3}, copy(5, 0, 6, 0, 4)};
        for (int[] one : kinds) {
            cardWithBytes();
            due("a value to copy", run(join(write(5, 0, 9), op(END))), DONE);
            card.tear(0);
            due("torn", run(join(one, op(END))), OFF);
            due("no transaction", card.reset(), 0);
            due("no object", card.objects(), 6);
            due("no cell written", card.cell(2, 3), 0);
            due("no cell copied", card.cell(6, 0), 0);
            due("it can be done then", run(join(one, op(END))), DONE);
        }
        newCard();
        card.tear(1);
        due("37 torn", run(join(op(OPEN), write(2, 3, 5), op(CLOSE, END))), OFF);
        due("is not done", card.reset(), 1);
        due("so that its thing is undone", card.cell(2, 3), 0);
    }

    /** (It is met once; then none is set.) Below 0 none. */
    void tearIsMetOnce() {
        int[] many = join(times(40, CELL_OF_ROOT), op(END));
        for (int n : new int[] {-1, -2, Integer.MIN_VALUE, 40, Integer.MAX_VALUE}) {
            newCard();
            due("tear(" + n + ")", card.tear(n), 1);
            due("40 writes", run(many), DONE);
            due("with power", card.objects(), 4);
        }
        newCard();
        card.tear(39);
        due("40 writes with a tear behind 39", run(many), OFF);
        card.reset();
        due("40 more", run(many), DONE);
        card.tear(0);
        card.tear(-1);
        due("one that was set is none then", run(many), DONE);
        card.tear(5);
        card.tear(40);
        due("the latest holds", run(many), DONE);
        due("for the one behind it", run(many), OFF);
    }

    /** The power is off: in whatever frame. */
    void tearInCalledFrame() {
        newCard();
        method(1, 2, 100, join(op(PUT, 5, REPLY, HANDLE, 12), write(3, 0, 5), op(END_WITH)));
        card.tear(0);
        due("run", run(join(taking(PUT, 6, REPLY, CALL_OPEN, 1, 0), op(END_WITH))), OFF);
        due("nothing is thrown", card.thrown0(), 0);
        due("no value", card.value(), 0);
        replies("no reply");
        due("used", card.used(), 11);
        due("reset", card.reset(), 0);
        due("nothing is written", card.cell(3, 0), 0);
    }

    /** When it comes again, an open transaction is undone. */
    void powerComesAgain() {
        for (int open = 0; open <= 1; open++) {
            newCard();
            card.tear(2);
            int[] writes = join(write(2, 0, 5), write(2, 1, 6), write(2, 2, 7), op(END));
            due("run", run(join(open == 1 ? op(OPEN) : op(), writes)), OFF);
            due("run without power", card.run(0, 99), OFF);
            due("reset", card.reset(), open);
            due("the first cell", card.cell(2, 0), open == 1 ? 0 : 5);
            due("the second cell", card.cell(2, 1), open == 1 ? 0 : 6);
            due("the torn one", card.cell(2, 2), 0);
            due("reset again", card.reset(), 0);
            ends("none is open", 0, IS_OPEN, END_WITH);
        }
        newCard();
        card.tear(0);
        due("torn where nothing was written in it", run(join(op(OPEN), CELL_OF_ROOT)), OFF);
        due("reset", card.reset(), 1);
        card.tear(1);
        due("torn behind one that is closed", run(join(op(OPEN, CLOSE), CELL_OF_ROOT)), OFF);
        due("reset", card.reset(), 0);
        card.tear(0);
        due("torn behind one that is undone", run(join(op(OPEN, UNDO), CELL_OF_ROOT)), OFF);
        due("reset", card.reset(), 0);
    }

    private static final int WAYS = 6;

    /** Opens a transaction, does this, with so many writes, and has it undone in one of the ways that there are. */
    private void undo(int way, int writes, int[] inIt) {
        int[] all = join(op(OPEN), inIt);
        switch (way) {
            case 0:
                due("by 38", run(join(all, op(UNDO, END))), DONE);
                break;
            case 1:
                due("by a command's end", run(join(all, op(END))), DONE);
                break;
            case 2:
                due("by a command's end with a value", run(join(all, op(PUT, 5, END_WITH))), DONE);
                break;
            case 3:
                due("by a command without fuel", run(join(all, op(GO, 0))), NO_FUEL);
                break;
            case 4:
                due("by a command with a thrown value", run(join(all, op(PUT, 5, THROW))), THROWN);
                break;
            default:
                card.tear(writes);
                due("by a 37 that is torn", run(join(all, op(CLOSE, END))), OFF);
                due("when power comes again", card.reset(), 1);
                break;
        }
    }

    /** A command that ends with a transaction open has it undone. */
    void commandEndsOpen() {
        for (int way = 0; way < WAYS; way++) {
            newCard();
            undo(way, 0, op());
            ends("39 in the next command", 0, IS_OPEN, END_WITH);
            throwsUp("37 in the next command", 9, CLOSE);
            due("36 in the next command", run(OPEN, CLOSE, END), DONE);
            due("power is on", card.reset(), 0);
        }
        newCard();
        method(1, 0, 100, OPEN, NEW_SHORTS, 1, END_WITH);
        ends("a frame's end alone undoes nothing", 1, CALL, 1, 0, DROP, IS_OPEN, END_WITH);
        due("but the command's end", card.objects(), 4);
        ends("37 in the caller closes it", 5, CALL, 1, 0, CLOSE, END_WITH);
        due("whole", card.objects(), 5);
    }

    /** UNDONE: each cell that 31 wrote in it has again what it had before. */
    void undoneCells() {
        for (int way = 0; way < WAYS; way++) {
            cardWithBytes();
            due("before", run(join(write(1, 0, -32768), write(4, 7, 300), write(5, 0, -128), write(5, 15, 127),
                    op(END))), DONE);
            undo(way, 5, join(write(1, 0, 1), write(4, 7, 2), write(5, 0, 3), write(5, 15, 4), write(2, 1, 5)));
            due("the first of SHORTS", card.cell(1, 0), -32768);
            due("the last of SHORTS", card.cell(4, 7), 300);
            due("the first of BYTES", card.cell(5, 0), -128);
            due("the last of BYTES", card.cell(5, 15), 127);
            due("one that was 0", card.cell(2, 1), 0);
            due("objects", card.objects(), 6);
        }
    }

    /** Each cell that 31 wrote: as many as there can be things. */
    void undoneCellsOfAllThings() {
        for (int way = 0; way < WAYS; way++) {
            newCard();
            int[] before = new int[0];
            int[] all = new int[0];
            for (int k = 0; k < 20; k++) {
                before = join(before, write(1 + k / 8, k % 8, 100 + k));
                all = join(all, write(1 + k / 8, k % 8, 200 + k));
            }
            due("before", run(join(before, op(END))), DONE);
            undo(way, 20, all);
            for (int k = 0; k < 20; k++) {
                due("cell of thing " + k, card.cell(1 + k / 8, k % 8), 100 + k);
            }
        }
    }

    /** What it had before the first time that it did so. */
    void undoneToBeforeTheFirst() {
        for (int way = 0; way < WAYS; way++) {
            newCard();
            due("before", run(join(write(1, 0, 5), write(1, 1, 6), op(END))), DONE);
            int[] all = new int[0];
            for (int k = 0; k < 10; k++) {
                all = join(all, write(1, 0, 50 + k), write(1, 1, 60 + k));
            }
            undo(way, 20, all);
            due("a cell written ten times", card.cell(1, 0), 5);
            due("another one", card.cell(1, 1), 6);
            undo(way, 1, write(1, 1, 7));
            due("not what an earlier one wrote", card.cell(1, 0), 5);
            due("nor this one", card.cell(1, 1), 6);
        }
    }

    /** Objects that are new in it are no more. */
    void undoneObjects() {
        for (int way = 0; way < WAYS; way++) {
            cardWithBytes();
            undo(way, 3, join(op(NEW_SHORTS, 3, DROP, NEW_BYTES, 2, DROP), write(7, 2, 9)));
            due("objects", card.objects(), 6);
            for (int what = 0; what <= 2; what++) {
                due("told of 7", card.told(7, what), BAD);
            }
            due("cell of 7", card.cell(7, 2), 0);
            throwsUp("reference 7", 2, PUT, 7, SIZE);
            throwsUp("reference 8", 2, PUT, 8, OWNER);
            ends("reference 6", 16, PUT, 6, SIZE, END_WITH);
        }
    }

    /** (The next ones get their numbers and cells): also where there is no other number or cell. */
    void undoneNumbersAndCells() {
        for (int way = 0; way < WAYS; way++) {
            newCard();
            due("39 objects", run(join(times(35, NEW_BYTES, 1, DROP), op(END))), DONE);
            undo(way, 2, join(op(NEW_SHORTS, 2, DROP), write(40, 1, 77)));
            undo(way, 1, op(NEW_SHORTS, 3, DROP));
            ends("the 40th again", 40, NEW_BYTES, 2, END_WITH);
            due("its cell", card.cell(40, 1), 0);
            throwsUp("no 41st", 8, NEW_BYTES, 1);
            newCard();
            due("224 cells", run(join(times(12, NEW_BYTES, 16, DROP), op(END))), DONE);
            undo(way, 2, join(op(NEW_SHORTS, 16, DROP), write(17, 15, 77)));
            undo(way, 2, op(NEW_SHORTS, 8, DROP, NEW_SHORTS, 8, DROP));
            ends("the last 16 again", 17, NEW_BYTES, 16, END_WITH);
            due("the 240th cell", card.cell(17, 15), 0);
            throwsUp("no 241st", 8, NEW_BYTES, 1);
        }
    }

    /** 35: ... not as part of a transaction. */
    void undoneWithoutCopies() {
        for (int way = 0; way < WAYS; way++) {
            cardWithBytes();
            due("before", run(join(write(5, 0, 1), write(5, 1, 2), op(END))), DONE);
            undo(way, 2, copy(5, 0, 6, 0, 2));
            due("copied", card.cell(6, 0), 1);
            due("and copied", card.cell(6, 1), 2);
            undo(way, 3, join(write(5, 0, 9), copy(5, 0, 6, 14, 2)));
            due("a copy of what is undone stays", card.cell(6, 14), 9);
            due("what is copied is undone", card.cell(5, 0), 1);
            undo(way, 17, join(op(NEW_BYTES, 16, DROP), copy(5, 0, 7, 0, 16)));
            ends("a copy to what is undone", 7, NEW_BYTES, 16, END_WITH);
            due("is no more", card.cell(7, 1), 0);
        }
    }

    /** Before the first time that it did so: where 35 writes the same cell. */
    void undoneInCopiedOrder() {
        for (int way = 0; way < WAYS; way++) {
            cardWithBytes();
            due("before", run(join(write(5, 0, 1), write(6, 0, 2), op(END))), DONE);
            undo(way, 2, join(write(6, 0, 50), copy(5, 0, 6, 0, 1)));
            due("31 before 35", card.cell(6, 0), 2);
            undo(way, 3, join(write(6, 0, 50), copy(5, 0, 6, 0, 1), write(6, 0, 60)));
            due("31 before and behind 35", card.cell(6, 0), 2);
            undo(way, 2, join(copy(5, 0, 6, 0, 1), write(6, 0, 50)));
            due("31 behind 35", card.cell(6, 0), 1);
        }
    }

    /** 37: it is closed, whole. */
    void wholeStays() {
        for (int way = 0; way < WAYS; way++) {
            newCard();
            due("one that is closed", run(join(op(OPEN, NEW_BYTES, 3, DROP), write(5, 2, 8), write(1, 0, 9),
                    op(CLOSE, END))), DONE);
            undo(way, 2, join(write(1, 0, 10), op(NEW_BYTES, 2, DROP)));
            due("its cell", card.cell(1, 0), 9);
            due("its object", card.told(5, 2), 3);
            due("its object's cell", card.cell(5, 2), 8);
            due("objects", card.objects(), 5);
        }
    }
}
