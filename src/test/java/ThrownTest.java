/** Terms: what is thrown, which of several comes first, and where a thrown value goes on. */
final class ThrownTest extends CardChecks {
    public static void main(String[] args) {
        ThrownTest test = new ThrownTest();
        test.references();
        test.wall();
        test.wallOfCopies();
        test.things();
        test.thingsOfNewObjects();
        test.fullStacks();
        test.shortStacks();
        test.places();
        test.orderOfCalls();
        test.orderOfObjects();
        test.orderOfCopies();
        test.orderOfWrites();
        test.nothingElseIsDone();
        test.handlerOnce();
        test.handlersOfCallers();
        test.handlerOutOfCode();
        test.end();
    }

    private static final int[] WRONG = {0, 5, -1, 41, 32767, -32768};

    void references() {
        newCard();
        for (int r : WRONG) {
            throwsUp("30 of " + r, 2, join(put(r), op(PUT, 0, READ)));
            throwsUp("31 of " + r, 2, join(put(r), op(PUT, 0, PUT, 0, WRITE)));
            throwsUp("32 of " + r, 2, join(put(r), op(SIZE)));
            throwsUp("34 of " + r, 2, join(put(r), op(OWNER)));
            throwsUp("35 from " + r, 2, join(put(r), op(PUT, 0, PUT, 1, PUT, 0, PUT, 0, COPY)));
            throwsUp("35 to " + r, 2, join(op(PUT, 1, PUT, 0), put(r), op(PUT, 0, PUT, 0, COPY)));
        }
        ends("an object while it is new", 2, OPEN, NEW_SHORTS, 2, DROP, PUT, 5, SIZE, END_WITH);
        throwsUp("one that was undone", 2, OPEN, NEW_SHORTS, 2, UNDO, SIZE);
    }

    void wall() {
        newCard();
        run(NEW_BYTES, 2, NEW_SHORTS, 2, END);
        for (int owner = 1; owner < 4; owner++) {
            for (int object = 1; object <= 6; object++) {
                boolean own = object == owner + 1;
                due("30", runOf(owner, PUT, object, PUT, 0, READ, END), own ? DONE : THROWN);
                due("30", card.thrown0(), own ? 0 : 4);
                due("31", runOf(owner, PUT, object, PUT, 0, PUT, 5, WRITE, END), own ? DONE : THROWN);
                due("31", card.thrown0(), own ? 0 : 4);
                due("31 does nothing", card.cell(object, 0), object <= owner + 1 && object > 1 && object < 5 ? 5 : 0);
                due("32", runOf(owner, PUT, object, SIZE, END), own ? DONE : THROWN);
                due("32", card.thrown0(), own ? 0 : 4);
                due("34", runOf(owner, PUT, object, OWNER, END_WITH), DONE);
                due("34", card.value(), object > 4 ? 0 : object - 1);
            }
        }
        for (int object = 1; object <= 6; object++) {
            ends("30 of the card itself", object > 1 && object < 5 ? 5 : 0,
                    PUT, object, PUT, 0, READ, END_WITH);
            ends("31 of the card itself", 7, PUT, object, PUT, 0, PUT, 7, WRITE, PUT, object, PUT, 0,
                    READ, END_WITH);
            ends("32 of the card itself", object < 5 ? 8 : 2, PUT, object, SIZE, END_WITH);
        }
        method(2, 2, 100, PUT, 1, PUT, 0, READ, END_WITH);
        throwsUp("a called method has its own owner's rights", 4, CALL_OPEN, 2, 0);
        method(2, 0, 100, PUT, 1, PUT, 0, READ, END_WITH);
        due("also if it is the card's", runOf(2, CALL_OPEN, 2, 0, END_WITH), DONE);
        due("its value", card.value(), 7);
        throwsUpFor(2, "not behind the call", 4, CALL_OPEN, 2, 0, DROP, PUT, 1, SIZE);
    }

    void wallOfCopies() {
        newCard();
        runOf(1, NEW_BYTES, 2, END);
        runOf(2, NEW_BYTES, 2, DOUBLE, PUT, 0, PUT, 9, WRITE, END);
        throwsUpFor(1, "35 from another's", 4, copy(6, 0, 5, 0, 1));
        throwsUpFor(2, "35 to another's", 4, copy(6, 0, 5, 0, 1));
        throwsUpFor(3, "35 of two others'", 4, copy(6, 0, 5, 0, 1));
        due("nothing is copied", card.cell(5, 0), 0);
        due("the card itself", run(join(copy(6, 0, 5, 0, 1), op(END))), DONE);
        due("copies", card.cell(5, 0), 9);
    }

    private static final int[] WRITE_ROOT = {ROOT, PUT, 0, PUT, 1, WRITE};

    void things() {
        newCard();
        due("20 things", run(join(op(OPEN), times(20, WRITE_ROOT), op(CLOSE, END))), DONE);
        throwsUp("21 things", 5, join(op(OPEN), times(21, WRITE_ROOT)));
        due("no limit without one", run(join(times(40, WRITE_ROOT), op(END))), DONE);
        due("20 behind 20 others",
                run(join(times(20, WRITE_ROOT), op(OPEN), times(20, WRITE_ROOT), op(END))), DONE);
        due("20 in a second one",
                run(join(op(OPEN), times(20, WRITE_ROOT), op(CLOSE, OPEN), times(20, WRITE_ROOT), op(END))),
                DONE);
        due("20 behind one undone",
                run(join(op(OPEN), times(20, WRITE_ROOT), op(UNDO, OPEN), times(20, WRITE_ROOT), op(END))),
                DONE);
        due("20 behind a command with one open", run(join(op(OPEN), times(20, WRITE_ROOT), op(END))), DONE);
        due("20 more", run(join(op(OPEN), times(20, WRITE_ROOT), op(END))), DONE);
        int[] overflow = join(op(HANDLE, 127, OPEN), times(20, WRITE_ROOT), WRITE_ROOT);
        load(127, REPLY, CLOSE, PUT, 1, PUT, 0, READ, END_WITH);
        method(0, 0, 200, overflow);
        load(200, HANDLE, -73);
        due("the 21st is thrown", card.run(0, 3000), DONE);
        replies("and can be taken", 5);
        due("the 20 are whole", card.value(), 1);
        due("35 is no thing", run(join(op(NEW_BYTES, 1, SET_LOCAL, 0, OPEN), times(20, WRITE_ROOT),
                op(LOCAL, 0, PUT, 0, LOCAL, 0, PUT, 0, PUT, 1, COPY, CLOSE, END))), DONE);
    }

    void thingsOfNewObjects() {
        newCard();
        int[] two = {NEW_SHORTS, 1, DROP, NEW_BYTES, 1, DROP};
        throwsUp("28 as a 21st thing", 5, join(op(OPEN), times(10, two), op(NEW_SHORTS, 1)));
        throwsUp("29 as a 21st thing", 5, join(op(OPEN), times(10, two), op(NEW_BYTES, 1)));
        throwsUp("31 as a 21st thing", 5, join(op(OPEN), times(10, two), WRITE_ROOT));
        due("none is left", card.objects(), 4);
        due("20 new ones", run(join(op(OPEN), times(10, two), op(CLOSE, END))), DONE);
        due("are all there", card.objects(), 24);
        due("without one", run(join(times(8, two), op(END))), DONE);
        due("no limit", card.objects(), 40);
    }

    void fullStacks() {
        newCard();
        int[] full = times(16, PUT, 1);
        int[][] puts = {{PUT, 1}, {PUT_WORD, 1, 1}, {LOCAL, 0}, {DOUBLE}, {ROOT}, {IS_OPEN}, {COMMAND_LENGTH},
            {NEW_SHORTS, 1}, {NEW_BYTES, 1}};
        for (int[] one : puts) {
            throwsUp("a full stack for " + one[0], 6, join(full, one));
            due("a place on it for " + one[0], run(join(times(15, PUT, 1), one, op(END))), DONE);
        }
        due("28 and 29 do nothing then", card.objects(), 6);
        int[][] others = {{SWAP}, {NEGATE}, {ADD}, {PUT, 1}, {OWNER}, {SIZE}, {READ}};
        for (int[] one : others) {
            int[] code = one[0] == PUT ? join(full, op(DROP), one) : one[0] == READ
                    ? join(times(14, PUT, 1), op(PUT, 1, PUT, 0), one) : join(full, one);
            due("a full stack is enough for " + one[0], run(join(code, op(END))), DONE);
        }
        method(1, 0, 200, END);
        int[][] nothings = {{NOTHING}, {ADD_TO_LOCAL, 0, 1}, {GO, 2}, {CALL, 1, 0}, {CALL_OPEN, 1, 0}, {OPEN},
            {OPEN, CLOSE}, {OPEN, UNDO}, {HANDLE, 5}, {HANDLE_NOT}};
        for (int[] one : nothings) {
            due("a full stack matters not for " + one[0], run(join(full, one, op(END))), DONE);
        }
        card.type(9);
        due("a full stack is enough for 40", run(join(times(15, PUT, 1), op(PUT, 0, COMMAND, END))), DONE);
    }

    void shortStacks() {
        newCard();
        int[] takes = new int[46];
        for (int k = 0; k < 46; k++) {
            takes[k] = k >= 6 && k <= 17 && k != 11 ? 2 : 0;
        }
        for (int k : new int[] {4, 11, 18, 19, 22, 26, 32, 34, 40, 42, 43}) {
            takes[k] = 1;
        }
        for (int k : new int[] {20, 23, 30}) {
            takes[k] = 2;
        }
        takes[31] = 3;
        takes[35] = 5;
        for (int k = 0; k < 46; k++) {
            for (int height = 0; height < takes[k]; height++) {
                throwsUp(k + " with " + height, 6, join(times(height, PUT, 1), op(k, 1, 1)));
            }
            // A call, with the bytes behind it, would be of the method itself until frames are full.
            if (k != CALL && k != CALL_OPEN) {
                newCard();
                run(join(times(takes[k], PUT, 1), op(k, 0, 3)));
                due(k + " with enough", card.thrown0() == 6 ? 1 : 0, 0);
            }
        }
    }

    void places() {
        newCard();
        method(1, 0, 511, PUT);
        due("bytes out of code", card.run(1, 9), THROWN);
        due("throw", card.thrown0(), 7);
        due("at once", card.used(), 1);
        method(1, 0, 511, NOTHING);
        due("an instruction out of code", card.run(1, 9), THROWN);
        due("throws", card.thrown0(), 7);
        due("and takes 1", card.used(), 2);
        due("or there is no fuel for it", card.run(1, 1), NO_FUEL);
        method(1, 0, 511, END);
        due("the last byte", card.run(1, 1), DONE);
        method(1, 0, 511, CALL);
        due("7 before 6 and 4", card.run(1, 9), THROWN);
        due("of a call", card.thrown0(), 7);
        method(1, 0, 510, GO_IF, 0);
        card.run(1, 9);
        due("7 before 6 of a jump", card.thrown0(), 7);
    }

    void orderOfCalls() {
        newCard();
        method(2, 2, 100, END);
        throwsUp("6 for too few before 4", 6, CALL, 2, 1);
        method(1, 0, 120, LOCAL, 0, GO_IF, 0, 11, ADD_TO_LOCAL, 0, -1, LOCAL, 0, CALL, 1, 1, CALL, 2, 0);
        throwsUp("4 before 6 for full frames", 4, PUT, 6, CALL, 1, 1);
        card.method(2, 0, 100, true);
        throwsUp("6 for full frames", 6, PUT, 6, CALL, 1, 1);
        throwsUp("no full frames", 7, PUT, 5, CALL, 1, 1);
        card.method(2, 2, 100, false);
        throwsUp("6 for too few before 4 of 27", 6, CALL_OPEN, 2, 8);
        throwsUp("4 of 27", 4, CALL_OPEN, 2, 0);
    }

    void orderOfObjects() {
        newCard();
        throwsUp("2 before 3", 2, PUT, 9, PUT, 99, READ);
        throwsUpFor(1, "4 before 3", 4, PUT, 1, PUT, 99, READ);
        throwsUpFor(1, "4 before 3 of 31", 4, PUT, 1, PUT, -1, PUT, 1, WRITE);
        int[] full = times(16, PUT, 1);
        throwsUp("8 before 6 for a full stack", 8, join(full, op(NEW_SHORTS, 17)));
        throwsUp("8 before 6 of 29", 8, join(full, op(NEW_BYTES, 0)));
        int[] things = join(op(OPEN), times(20, WRITE_ROOT));
        throwsUp("8 before 5", 8, join(things, op(NEW_SHORTS, 17)));
        throwsUp("5 before 6 for a full stack", 5, join(things, full, op(NEW_SHORTS, 1)));
        throwsUp("5 before 6 of 29", 5, join(things, full, op(NEW_BYTES, 1)));
        throwsUp("8 before 5 and 6", 8, join(things, full, op(NEW_BYTES, 17)));
    }

    void orderOfCopies() {
        newCard();
        runOf(1, NEW_BYTES, 4, END);
        runOf(2, NEW_BYTES, 4, END);
        throwsUpFor(1, "2 of the second before 4 of the first", 2, copy(6, 9, 9, 9, -1));
        throwsUpFor(1, "2 of the first before 4 of the second", 2, copy(0, 9, 6, 9, -1));
        throwsUpFor(1, "4 of the second before 11 of the first", 4, copy(2, 9, 6, 9, -1));
        throwsUpFor(1, "4 of the first before 11 of the second", 4, copy(6, 9, 2, 9, -1));
        throwsUpFor(1, "11 of the second before 8", 11, copy(5, 9, 2, 9, -1));
        throwsUpFor(1, "11 of the first before 3", 11, copy(2, 9, 5, 9, 1));
        throwsUpFor(1, "8 before 3", 8, copy(5, 9, 5, 9, -1));
        throwsUpFor(1, "3 before there is no n", 3, copy(5, 0, 5, 0, 32767));
        method(0, 0, 0, join(copy(5, 0, 5, 2, 3), op(END)));
        due("3, though there is no fuel for n", card.run(0, 6), THROWN);
        due("thrown", card.thrown0(), 3);
        throwsUpFor(1, "6 for too few before 2", 6, PUT, 0, PUT, 0, PUT, 0, PUT, 0, COPY);
    }

    void orderOfWrites() {
        newCard();
        int[] things = join(op(OPEN), times(20, WRITE_ROOT));
        throwsUp("2 before 5", 2, join(things, op(PUT, 9, PUT, 0, PUT, 0, WRITE)));
        throwsUp("3 before 5", 3, join(things, op(PUT, 1, PUT, 8, PUT, 0, WRITE)));
        throwsUpFor(2, "4 before 5", 4, join(things, op(PUT, 1, PUT, 0, PUT, 0, WRITE)));
        throwsUp("5", 5, join(things, op(PUT, 1, PUT, 0, PUT, 0, WRITE)));
    }

    void nothingElseIsDone() {
        newCard();
        card.tear(1);
        throwsUp("31 that throws", 3, ROOT, PUT, 8, PUT, 1, WRITE);
        throwsUp("28 that throws", 8, NEW_SHORTS, 17);
        throwsUp("28 with a full stack", 6, join(times(16, PUT, 1), op(NEW_SHORTS, 1)));
        throwsUp("37 that throws", 9, CLOSE);
        throwsUp("35 that throws", 11, copy(1, 0, 1, 0, 4));
        due("no write was done by them", run(join(WRITE_ROOT, op(END))), DONE);
        due("the next one is torn", run(join(WRITE_ROOT, op(END))), OFF);
        card.reset();
        ends("36 that throws leaves it open", 1, HANDLE, 4, OPEN, OPEN, IS_OPEN, END_WITH);
        throwsUp("42 that throws", 6, times(33, PUT, 7, REPLY));
        method(1, 0, 200, LOCAL, 0, END_WITH);
        ends("a call that throws", 6, HANDLE, 5, CALL, 1, 1, END_WITH);
    }

    void handlerOnce() {
        newCard();
        ends("the stack is emptied", 9, HANDLE, 9, PUT, 5, PUT, 6, PUT, 9, THROW, END_WITH);
        throwsUp("and holds the value alone", 6, HANDLE, 9, PUT, 5, PUT, 6, PUT, 9, THROW, DROP, DROP);
        throwsUp("the handler is none then", 8, HANDLE, 5, PUT, 9, THROW, PUT, 8, THROW);
        ends("until the next one", 8, HANDLE, 5, PUT, 9, THROW, HANDLE, 5, PUT, 8, THROW, END_WITH);
        ends("locals stay", 4, HANDLE, 9, PUT, 4, SET_LOCAL, 1, PUT, 9, THROW, LOCAL, 1, END_WITH);
        ends("a thrown 0", 0, HANDLE, 5, PUT, 0, THROW, END_WITH);
        ends("a transaction stays open", 1, OPEN, HANDLE, 5, PUT, 9, THROW, IS_OPEN, END_WITH);
        ends("by the machine", 1, HANDLE, 7, PUT, 0, PUT, 0, DIVIDE, END_WITH);
    }

    void handlersOfCallers() {
        newCard();
        method(1, 0, 100, PUT, 9, THROW);
        ends("the caller's", 9, HANDLE, 6, CALL, 1, 0, DROP, END_WITH);
        throwsUp("no one's", 9, CALL, 1, 0);
        method(2, 0, 110, CALL, 1, 0);
        ends("the caller's caller's", 9, HANDLE, 6, CALL, 2, 0, DROP, END_WITH);
        method(1, 0, 100, HANDLE, 5, PUT, 9, THROW, PUT, 1, ADD, THROW);
        ends("its own first, then the caller's", 10, HANDLE, 6, CALL, 1, 0, DROP, END_WITH);
        method(1, 3, 100, PUT, 9, THROW);
        ends("of another owner", 9, HANDLE, 6, CALL_OPEN, 1, 0, DROP, END_WITH);
        ends("the owner is the caller's again", 0,
                HANDLE, 6, CALL_OPEN, 1, 0, DROP, DROP, ROOT, OWNER, END_WITH);
        method(1, 0, 100, HANDLE, 4, END);
        throwsUp("a frame's handler ends with it", 9, CALL, 1, 0, PUT, 9, THROW);
        method(2, 0, 110, PUT, 9, THROW);
        throwsUp("also for a frame used again", 9, CALL, 1, 0, CALL, 2, 0);
        method(1, 0, 100, PUT, 9, THROW);
        throwsUp("the caller's stack is emptied", 6,
                PUT, 1, PUT, 2, HANDLE, 6, CALL, 1, 0, DROP, DROP, DROP);
        method(3, 0, 130, LOCAL, 0, GO_IF, 0, 11, ADD_TO_LOCAL, 0, -1, LOCAL, 0, CALL, 3, 1, PUT, 9, THROW);
        ends("through 8 frames", 6, HANDLE, 8, PUT, 7, CALL, 3, 1, DROP, END_WITH);
        ends("and 8 frames are there again", 9, HANDLE, 8, PUT, 6, CALL, 3, 1, DROP,
                DROP, HANDLE, 7, PUT, 6, CALL, 3, 1, END_WITH);
    }

    void handlerOutOfCode() {
        newCard();
        load(0, HANDLE, -1, PUT, 9, THROW);
        due("a handler before code", card.run(0, 99), THROWN);
        due("throws 7 there", card.thrown0(), 7);
        due("in an instruction", card.used(), 4);
        method(1, 0, 500, HANDLE, 127, PUT, 9, THROW);
        due("a handler behind code", card.run(1, 99), THROWN);
        due("throws 7 there", card.thrown0(), 7);
        method(1, 0, 0, HANDLE, -128, END);
        due("one that is not used", card.run(1, 99), DONE);
        method(1, 0, 508, HANDLE, -8, NOTHING, NOTHING);
        load(500, END_WITH);
        due("7 can be taken", card.run(1, 99), DONE);
        due("its value", card.value(), 7);
    }
}
