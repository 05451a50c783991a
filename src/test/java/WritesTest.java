/** Terms: writes, tears, and what is undone. */
final class WritesTest extends CardChecks {
    public static void main(String[] args) {
        WritesTest test = new WritesTest();
        test.wholeOrNothing();
        test.withoutTransaction();
        test.whatIsNoWrite();
        test.tornCopy();
        test.undoneCells();
        test.undoneAndCopied();
        test.undoneObjects();
        test.endsOpen();
        test.tornBehindReply();
        test.openWhenPowerGoes();
        test.end();
    }

    /** Whatever write of it is torn: all of the transaction is there behind it, or nothing. */
    void wholeOrNothing() {
        int[] move = join(op(OPEN), write(1, 0, 70), write(2, 3, 30), op(NEW_SHORTS, 2, SET_LOCAL, 0),
                write(1, 0, 71), write(5, 1, 8), op(NEW_BYTES, 3, DROP, CLOSE, PUT, 9, REPLY, END));
        for (int n = 0; n <= 8; n++) {
            newCard();
            run(join(write(1, 0, 100), write(2, 3, -100), op(END)));
            card.tear(n);
            boolean whole = n >= 7;
            due("run with a tear after " + n, run(move), whole ? DONE : OFF);
            due("reply with a tear after " + n, card.reply(0), whole ? 9 : BAD);
            due("objects() with a tear after " + n, card.objects(), whole ? 6 : BAD);
            due("cell() with a tear after " + n, card.cell(1, 0), whole ? 71 : 0);
            due("reset() with a tear after " + n, card.reset(), whole ? 0 : 1);
            due("first cell with a tear after " + n, card.cell(1, 0), whole ? 71 : 100);
            due("second cell with a tear after " + n, card.cell(2, 3), whole ? 30 : -100);
            due("objects with a tear after " + n, card.objects(), whole ? 6 : 4);
            due("new cell with a tear after " + n, card.cell(5, 1), whole ? 8 : 0);
            due("it goes on behind a tear after " + n, run(whole ? op(END) : move), DONE);
            due("whole behind a tear after " + n, card.cell(1, 0), 71);
        }
    }

    void withoutTransaction() {
        int[] all = join(write(1, 0, 7), op(NEW_BYTES, 2, DROP), write(1, 0, 8), op(NEW_SHORTS, 3, DROP),
                write(5, 1, 9), op(END));
        int[] first = {0, 7, 7, 8, 8, 8};
        int[] objects = {4, 4, 5, 5, 6, 6};
        for (int n = 0; n < 6; n++) {
            newCard();
            card.tear(n);
            due("run, " + n, run(all), n < 5 ? OFF : DONE);
            due("reset, " + n, card.reset(), 0);
            due("cell, " + n, card.cell(1, 0), first[n]);
            due("objects, " + n, card.objects(), objects[n]);
            due("last, " + n, card.cell(5, 1), n < 5 ? 0 : 9);
        }
    }

    void whatIsNoWrite() {
        newCard();
        run(NEW_BYTES, 2, END);
        card.tear(0);
        card.type(7);
        int[] none = join(op(ROOT, SIZE, DROP, ROOT, PUT, 0, READ, REPLY, PUT, 0, COMMAND, SET_LOCAL, 0, OPEN,
                UNDO, OPEN, IS_OPEN), copy(5, 0, 5, 0, 0), op(END));
        due("no write", run(none), DONE);
        due("so no tear", card.objects(), 5);
        card.tear(1);
        due("undoing is none", run(join(op(OPEN), write(1, 0, 7), op(UNDO, END))), DONE);
        due("at the end neither", run(join(op(OPEN, OPEN))), THROWN);
        card.tear(1);
        due("of a command", run(join(op(OPEN), write(1, 0, 7), op(END))), DONE);
        due("the next one", run(join(write(1, 0, 7), op(END))), OFF);
        due("is the torn one", card.reset(), 0);
        due("not done", card.cell(1, 0), 0);
        card.tear(2);
        due("37 is one", run(join(op(OPEN, CLOSE, OPEN, CLOSE, OPEN, CLOSE, END))), OFF);
        due("and leaves it open", card.reset(), 1);
    }

    void tornCopy() {
        for (int n = 0; n <= 4; n++) {
            newCard();
            run(join(op(NEW_BYTES, 4, NEW_BYTES, 4), write(5, 0, 1), write(5, 1, 2), write(5, 2, 3),
                    write(5, 3, 4), op(END)));
            card.tear(n);
            due("run, " + n, run(join(op(OPEN), copy(5, 0, 6, 0, 4), op(UNDO, END))), n < 4 ? OFF : DONE);
            due("reset, " + n, card.reset(), n < 4 ? 1 : 0);
            for (int i = 0; i < 4; i++) {
                due("cell " + i + ", " + n, card.cell(6, i), i < n ? i + 1 : 0);
            }
        }
    }

    void undoneCells() {
        newCard();
        run(join(write(1, 0, 5), write(1, 1, 6), op(END)));
        ends("seen in it", 8, join(op(OPEN), write(1, 0, 7), write(1, 0, 8),
                op(PUT, 1, PUT, 0, READ, SET_LOCAL, 0, UNDO, LOCAL, 0, END_WITH)));
        due("before the first write", card.cell(1, 0), 5);
        due("another cell", card.cell(1, 1), 6);
        run(join(op(OPEN), write(1, 0, 7), write(1, 1, 7), write(1, 0, 9), write(2, 0, 3), op(UNDO), write(1, 1, 4),
                op(END)));
        due("undone", card.cell(1, 0), 5);
        due("written behind it", card.cell(1, 1), 4);
        due("of another object", card.cell(2, 0), 0);
        run(join(write(1, 0, 1), op(OPEN), write(1, 0, 2), op(CLOSE, OPEN), write(1, 0, 3), op(UNDO, END)));
        due("whole stays whole", card.cell(1, 0), 2);
        run(join(op(OPEN), write(1, 0, 7), op(UNDO, OPEN, UNDO, END)));
        due("undone once", card.cell(1, 0), 2);
        run(join(op(OPEN), write(1, 0, 7), op(CLOSE, OPEN, UNDO, END)));
        due("not what was whole before", card.cell(1, 0), 7);
        run(join(op(OPEN), join(write(1, 0, 1), write(1, 1, 1), write(1, 2, 1)), op(UNDO, OPEN),
                write(1, 3, 1), op(UNDO, END)));
        due("nor what was undone before", card.cell(1, 0), 7);
    }

    void undoneAndCopied() {
        newCard();
        run(join(op(NEW_BYTES, 3, NEW_BYTES, 3), write(5, 0, 1), write(5, 1, 2), write(5, 2, 3), op(END)));
        run(join(op(OPEN), copy(5, 0, 6, 0, 3), op(UNDO, END)));
        due("35 is not undone", card.cell(6, 0), 1);
        due("in all its cells", card.cell(6, 2), 3);
        run(join(op(OPEN), write(6, 0, 50), copy(5, 1, 6, 0, 1), op(UNDO, END)));
        due("31 before 35: what it had before 31", card.cell(6, 0), 1);
        run(join(op(OPEN), copy(5, 1, 6, 0, 1), write(6, 0, 50), op(UNDO, END)));
        due("31 behind 35: what 35 wrote", card.cell(6, 0), 2);
        run(join(op(OPEN), write(6, 0, 50), copy(5, 2, 6, 0, 1), write(6, 0, 60), op(UNDO, END)));
        due("31 before and behind 35: before the first", card.cell(6, 0), 2);
        run(join(op(OPEN), write(5, 0, 50), copy(5, 0, 6, 1, 1), op(UNDO, END)));
        due("35 of what is undone stays", card.cell(6, 1), 50);
        due("31 is undone", card.cell(5, 0), 1);
        run(join(op(OPEN), copy(5, 0, 6, 0, 3), op(CLOSE, END)));
        due("whole", card.cell(6, 1), 2);
    }

    void undoneObjects() {
        newCard();
        run(join(op(OPEN, NEW_SHORTS, 3, DROP), write(5, 0, 77), write(5, 2, 78), op(UNDO, END)));
        due("no more", card.told(5, 0), BAD);
        due("nor its cells", card.cell(5, 0), 0);
        ends("the next one has its number", 5, NEW_BYTES, 3, END_WITH);
        due("its own sort", card.told(5, 1), 1);
        for (int i = 0; i < 3; i++) {
            due("its cells are 0", card.cell(5, i), 0);
        }
        newCard();
        run(join(op(NEW_BYTES, 3, DROP), write(5, 1, 9), op(OPEN, NEW_BYTES, 3, DROP), copy(5, 0, 6, 0, 3),
                op(UNDO, NEW_BYTES, 3, END)));
        due("its cells are 0, though 35 wrote there", card.cell(6, 1), 0);
        newCard();
        run(NEW_BYTES, 3, END);
        ends("new ones behind undone ones", 6,
                OPEN, NEW_SHORTS, 2, NEW_SHORTS, 4, UNDO, DROP, DROP, NEW_SHORTS, 16, END_WITH);
        due("its size", card.told(6, 2), 16);
        // All cells but 5: 240 - 32 - 3 - 16 - 184.
        run(join(times(11, NEW_SHORTS, 16, DROP), op(NEW_SHORTS, 8, END)));
        due("objects", card.objects(), 18);
        for (int k = 0; k < 3; k++) {
            ends("undone ones give back their cells", 19, OPEN, NEW_SHORTS, 5, UNDO, END_WITH);
            throwsUp("there are no more than these", 8, OPEN, NEW_SHORTS, 5, NEW_SHORTS, 1);
        }
        due("objects are as before", card.objects(), 18);
    }

    void endsOpen() {
        newCard();
        int[] open = join(op(OPEN, NEW_SHORTS, 1, DROP), write(1, 0, 7));
        due("ended", run(join(open, op(PUT, 3, REPLY, PUT, 4, END_WITH))), DONE);
        due("its value", card.value(), 4);
        replies("its reply", 3);
        due("undone", card.cell(1, 0), 0);
        due("objects", card.objects(), 4);
        due("power is on", card.reset(), 0);
        due("thrown", run(join(open, op(PUT, 3, THROW))), THROWN);
        due("undone for 20", card.cell(1, 0), 0);
        due("objects for 20", card.objects(), 4);
        due("no fuel", run(join(open, op(GO, 0))), NO_FUEL);
        due("undone for 10", card.cell(1, 0), 0);
        due("objects for 10", card.objects(), 4);
        ends("none is open in the next command", 0, IS_OPEN, END_WITH);
    }

    void tornBehindReply() {
        newCard();
        card.tear(0);
        due("run", run(join(op(PUT, 8, REPLY), write(1, 0, 7), op(PUT, 5, END_WITH))), OFF);
        replies("no reply");
        due("no value", card.value(), 0);
        due("nothing thrown", card.thrown0(), 0);
        due("fuel used", card.used(), 6);
        card.reset();
        replies("nor behind reset");
    }

    void openWhenPowerGoes() {
        newCard();
        card.tear(2);
        due("run", run(join(op(OPEN), write(1, 0, 7), write(1, 1, 7), write(1, 2, 7))), OFF);
        due("run without power", card.run(0, 99), OFF);
        due("bad run without power", card.run(0, 0), BAD);
        due("code without power", card.code(500, END), 1);
        due("tear without power", card.tear(-1), 1);
        due("reset", card.reset(), 1);
        for (int i = 0; i < 3; i++) {
            due("undone", card.cell(1, i), 0);
        }
        due("reset with power", card.reset(), 0);
    }
}
