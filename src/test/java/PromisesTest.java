/** Promises 1 to 15, one after the other: ordinary arguments, edges, and wrong arguments. */
final class PromisesTest extends CardChecks {
    public static void main(String[] args) {
        PromisesTest test = new PromisesTest();
        test.constants();
        test.newObject();
        test.code();
        test.codes();
        test.codesAll();
        test.method();
        test.type();
        test.run();
        test.runWithoutPower();
        test.thrown0();
        test.value();
        test.reply();
        test.used();
        test.usedByCopy();
        test.tear();
        test.reset();
        test.objects();
        test.told();
        test.cell();
        test.end();
    }

    void constants() {
        due("BAD", CardMachine.BAD, -1);
        due("OFF", CardMachine.OFF, -2);
        due("FULL", CardMachine.FULL, -3);
    }

    void newObject() {
        newCard();
        due("objects()", card.objects(), 4);
        for (int object = 1; object <= 4; object++) {
            due("root's owner", card.told(object, 0), object - 1);
            due("root's sort", card.told(object, 1), 0);
            due("root's size", card.told(object, 2), 8);
            for (int i = 0; i < 8; i++) {
                due("root's cell", card.cell(object, i), 0);
            }
        }
        due("thrown0() at first", card.thrown0(), 0);
        due("value() at first", card.value(), 0);
        due("used() at first", card.used(), 0);
        due("reply(0) at first", card.reply(0), BAD);
        due("reset() at first", card.reset(), 0);
        for (int m = 0; m < 16; m++) {
            due("code at first is 0 for 512 bytes", card.run(m, 512), NO_FUEL);
            due("and no further", card.run(m, 513), THROWN);
            due("as there is no code", card.thrown0(), 7);
        }
        newCard();
        card.codes(0, 0x1B0100L, 3);
        due("methods are not open at first", card.run(0, 9), THROWN);
        due("which is", card.thrown0(), 4);
        card.codes(0, 0x18010019L, 4);
        due("methods are of owner 0, from byte 0, at first", card.run(0, 3000), THROWN);
        due("so that frames are full", card.thrown0(), 6);
    }

    void code() {
        newCard();
        due("code(0, 0)", card.code(0, 0), 1);
        due("code(511, 255)", card.code(511, 255), 1);
        due("code(-1, 0)", card.code(-1, 0), BAD);
        due("code(512, 0)", card.code(512, 0), BAD);
        due("code(0, -1)", card.code(0, -1), BAD);
        due("code(0, 256)", card.code(0, 256), BAD);
        due("code(MAX, 0)", card.code(Integer.MAX_VALUE, 0), BAD);
        due("code(MIN, MIN)", card.code(Integer.MIN_VALUE, Integer.MIN_VALUE), BAD);
        card.code(0, 1);
        card.code(1, 200);
        card.code(2, 26);
        card.code(0, 256);
        card.code(1, -1);
        card.code(512, 9);
        due("the code that was set", card.run(0, 9), DONE);
        due("runs", card.value(), -56);
        due("code without power", powerOff().code(1, 5), 1);
        card.reset();
        card.code(0, 1);
        card.code(1, 7);
        card.code(2, 26);
        card.run(0, 9);
        due("the latest byte stands", card.value(), 7);
    }

    void codes() {
        newCard();
        due("codes, 8 bytes", card.codes(0, 0x0105010706120800L, 8), 1);
        due("codes, 1 byte", card.codes(8, -230L, 1), 1);
        due("the highest first", card.run(0, 99), DONE);
        due("and all of them", card.value(), 144);
        due("n 0", card.codes(0, 0L, 0), BAD);
        due("n -1", card.codes(0, 0L, -1), BAD);
        due("n 9", card.codes(0, 0L, 9), BAD);
        due("n MIN", card.codes(0, 0L, Integer.MIN_VALUE), BAD);
        due("i -1", card.codes(-1, 0L, 2), BAD);
        due("i 512", card.codes(512, 0L, 1), BAD);
        due("i 505 for 8", card.codes(505, 0L, 8), BAD);
        due("i MAX", card.codes(Integer.MAX_VALUE, 0L, 8), BAD);
        due("what was bad changed nothing", card.run(0, 99), DONE);
        due("in the code", card.value(), 144);
        due("i 504 for 8", card.codes(504, -1L, 8), 1);
        due("i 511 for 1", card.codes(511, 25L, 1), 1);
        card.method(1, 0, 511, true);
        due("the last byte runs", card.run(1, 9), DONE);
        card.method(1, 0, 510, true);
        due("the one before it too", card.run(1, 9), THROWN);
    }

    /** For each count of bytes, code that answers how far behind them the next bytes stand. */
    void codesAll() {
        for (int n = 1; n <= 8; n++) {
            newCard();
            card.codes(0, -1L, 8);
            card.codes(8, -1L, 8);
            long v = 0x1900000000000000L >>> 8 * (8 - n);
            due("codes for " + n, card.codes(4, v, n), 1);
            for (int k = 0; k < 12; k++) {
                card.method(0, 0, k, true);
                int answer = card.run(0, 1);
                int want = k == 4 ? DONE : k > 4 && k < 4 + n ? NO_FUEL : THROWN;
                due("byte " + k + " of code for " + n, answer, want);
            }
        }
    }

    void method() {
        newCard();
        load(300, ROOT, OWNER, END_WITH);
        due("method", card.method(15, 3, 300, false), 1);
        card.run(15, 99);
        due("its owner", card.value(), 3);
        due("owner 0", card.method(15, 0, 300, false), 1);
        card.run(15, 99);
        due("its new owner", card.value(), 0);
        due("m 16", card.method(16, 0, 0, true), BAD);
        due("m -1", card.method(-1, 0, 0, true), BAD);
        due("owner 4", card.method(15, 4, 0, true), BAD);
        due("owner -1", card.method(15, -1, 0, true), BAD);
        due("from -1", card.method(15, 1, -1, true), BAD);
        due("from 512", card.method(15, 1, 512, true), BAD);
        due("all MIN", card.method(Integer.MIN_VALUE, Integer.MIN_VALUE, Integer.MIN_VALUE, true), BAD);
        card.run(15, 99);
        due("what was bad changed nothing", card.value(), 0);
        due("from 511", card.method(0, 1, 511, true), 1);
        due("from 511 runs", card.run(0, 1), NO_FUEL);
        method(1, 1, 100, CALL_OPEN, 15, 0, END_WITH);
        due("not open", card.run(1, 99), THROWN);
        due("thrown", card.thrown0(), 4);
        card.method(15, 0, 300, true);
        due("open", card.run(1, 99), DONE);
        card.method(15, 0, 300, false);
        due("not open again", card.run(1, 99), THROWN);
    }

    void type() {
        newCard();
        load(0, COMMAND_LENGTH, REPLY, PUT, 0, COMMAND, REPLY, PUT, 31, COMMAND, END_WITH);
        due("type(256)", card.type(256), BAD);
        due("type(-1)", card.type(-1), BAD);
        due("type(MAX)", card.type(Integer.MAX_VALUE), BAD);
        for (int k = 1; k <= 32; k++) {
            due("type " + k, card.type(k == 1 ? 255 : k == 32 ? 0x80 : k), k);
        }
        due("type 33", card.type(0), CardMachine.FULL);
        due("type 33 again", card.type(255), CardMachine.FULL);
        due("type 33, bad", card.type(256), BAD);
        due("run", card.run(0, 99), DONE);
        due("byte 31, with sign", card.value(), -128);
        replies("length and byte 0", 32, 255);
        due("the command is empty then", card.type(0), 1);
        due("run, BAD", card.run(0, 0), BAD);
        due("behind BAD it stays", card.type(0), 2);
        due("run with 2", card.run(0, 99), THROWN);
        due("byte 31 of it", card.thrown0(), 3);
        due("behind 20 it is empty", card.type(0), 1);
        due("run without fuel", card.run(0, 1), NO_FUEL);
        due("behind 10 it is empty", card.type(9), 1);
        due("without power one can type", powerOff().type(9), 1);
        due("run without power", card.run(0, 9), OFF);
        due("behind OFF it is empty", card.type(9), 1);
    }

    void run() {
        newCard();
        due("run, ended", run(END), DONE);
        due("run, ended with a value", run(PUT, 9, END_WITH), DONE);
        due("run, thrown", run(PUT, 9, THROW), THROWN);
        due("run, no fuel", run(GO, 0), NO_FUEL);
        load(0, PUT, 9, REPLY, PUT, 4, THROW);
        due("m -1", card.run(-1, 9), BAD);
        due("m 16", card.run(16, 9), BAD);
        due("fuel 0", card.run(0, 0), BAD);
        due("fuel -1", card.run(0, -1), BAD);
        due("fuel 3001", card.run(0, 3001), BAD);
        due("fuel MAX", card.run(0, Integer.MAX_VALUE), BAD);
        due("fuel 3000", card.run(0, 3000), THROWN);
        due("m 16 with a command", card.run(16, 9), BAD);
        due("used() stays behind BAD", card.used(), 4);
        due("thrown0() stays behind BAD", card.thrown0(), 4);
        replies("the reply stays behind BAD", 9);
        run(PUT, 6, END_WITH);
        due("fuel 0", card.run(0, 0), BAD);
        due("value() stays behind BAD", card.value(), 6);
        due("enough fuel", card.run(0, 2), DONE);
        due("one too little", card.run(0, 1), NO_FUEL);
        due("value() for 10", card.value(), 0);
        run(SET_LOCAL, 3);
        due("no arguments", card.thrown0(), 6);
        method(3, 0, 100, LOCAL, 7, LOCAL, 0, OR, PUT, 5, SET_LOCAL, 0, PUT, 5, SET_LOCAL, 7, END_WITH);
        card.run(3, 99);
        card.run(3, 99);
        due("locals are 0 anew for each run", card.value(), 0);
        run(HANDLE, 3, PUT, 1, THROW);
        run(PUT, 1, THROW);
        due("no handler anew for each run", card.thrown0(), 1);
        due("and no value on the stack", run(END_WITH), THROWN);
    }

    void runWithoutPower() {
        newCard();
        run(PUT, 3, REPLY, PUT, 5, END_WITH);
        due("a reply with power", card.reply(0), 3);
        powerOff();
        due("run without power", card.run(0, 9), OFF);
        due("value()", card.value(), 0);
        due("thrown0()", card.thrown0(), 0);
        due("used()", card.used(), 0);
        replies("no reply");
        due("bad without power", card.run(0, 0), BAD);
        due("m bad without power", card.run(16, 1), BAD);
        card.reset();
        due("with power again", run(PUT, 3, REPLY, PUT, 5, END_WITH), DONE);
        due("it runs", card.value(), 5);
    }

    void thrown0() {
        newCard();
        for (int thrown : new int[] {0, 1, -1, 32767, -32768, 10}) {
            throwsUp("a value of its own", thrown, join(put(thrown), op(THROW)));
        }
        run(GO, 0);
        due("0 behind 10", card.thrown0(), 0);
        run(PUT, 7, THROW);
        run(END);
        due("0 behind 0", card.thrown0(), 0);
        run(PUT, 7, THROW);
        due("one that nothing took", card.thrown0(), 7);
        run(HANDLE, 5, PUT, 7, THROW, END_WITH);
        due("0 for one that was taken", card.thrown0(), 0);
        due("it was the handler's value", card.value(), 7);
    }

    void value() {
        newCard();
        ends("by 26", -32768, join(put(-32768), op(END_WITH)));
        ends("by 25", 0, PUT, 5, END);
        method(1, 0, 100, PUT, 44, END_WITH);
        ends("of the first frame alone", 0, CALL, 1, 0, END);
        ends("given on", 44, CALL, 1, 0, END_WITH);
        run(PUT, 5, END_WITH);
        run(PUT, 5, THROW);
        due("value() for 20", card.value(), 0);
    }

    void reply() {
        newCard();
        run(PUT, 1, REPLY, PUT, -1, REPLY, PUT_WORD, 1, 0, REPLY, PUT_WORD, 0x12, 0x80, REPLY, END);
        replies("lowest bytes", 1, 255, 0, 128);
        due("reply(-1)", card.reply(-1), BAD);
        due("reply(32)", card.reply(32), BAD);
        due("reply(MAX)", card.reply(Integer.MAX_VALUE), BAD);
        due("reply(MIN)", card.reply(Integer.MIN_VALUE), BAD);
        run(PUT, 8, REPLY, GO, 0);
        replies("for 10", 8);
        run(PUT, 9, REPLY, PUT, 8, THROW);
        replies("for 20", 9);
        run(END);
        replies("anew for each run");
        load(0, LOCAL, 0, REPLY, ADD_TO_LOCAL, 0, 1, GO, -6);
        due("more than 32", card.run(0, 3000), THROWN);
        due("is full", card.thrown0(), 6);
        due("byte 31", card.reply(31), 31);
        due("byte 32", card.reply(32), BAD);
    }

    void used() {
        newCard();
        run(END);
        due("one instruction", card.used(), 1);
        run(DROP);
        due("one that throws", card.used(), 1);
        run(255);
        due("one that there is not", card.used(), 1);
        run(GO, 0);
        due("all the fuel", card.used(), 3000);
        method(1, 0, 100, PUT, 44, END_WITH);
        run(CALL, 1, 0, END_WITH);
        due("calls", card.used(), 4);
        run(HANDLE, 3, DROP, PUT, 1, END);
        due("a handler takes none itself", card.used(), 4);
    }

    void usedByCopy() {
        newCard();
        int[] copy = join(op(NEW_BYTES, 16, SET_LOCAL, 0, LOCAL, 0, PUT, 0, LOCAL, 0, PUT, 8, PUT, 8),
                op(COPY, END));
        due("35", run(copy), DONE);
        due("35 takes n more", card.used(), 17);
        due("with all that it needs", card.run(0, 16), NO_FUEL);
        due("the copy is done", card.used(), 16);
        due("with one too little for its n", card.run(0, 15), NO_FUEL);
        due("the copy is not done", card.used(), 8);
        due("with none for 35 itself", card.run(0, 7), NO_FUEL);
        due("without 35", card.used(), 7);
        run(PUT, 1, DOUBLE, DOUBLE, DOUBLE, PUT, 9, COPY);
        due("35 that throws takes 1", card.used(), 6);
        run(NEW_BYTES, 2, DOUBLE, PUT, 0, SWAP, PUT, 0, PUT, 0, COPY, END);
        due("35 for n = 0", card.used(), 8);
        card.tear(3);
        due("35 torn", run(copy), OFF);
        due("35 torn takes its n", card.used(), 16);
        newCard();
        run(join(op(NEW_BYTES, 4, SET_LOCAL, 0, LOCAL, 0, PUT, 0, PUT, 7, WRITE, END)));
        load(0, PUT, 5, PUT, 0, PUT, 5, PUT, 1, PUT, 3, COPY, END);
        card.tear(0);
        due("no n for 35", card.run(0, 8), NO_FUEL);
        due("35 without its n writes nothing", card.cell(5, 1), 0);
        due("so that no tear is met", card.objects(), 5);
        due("which still is set", card.run(0, 9), OFF);
    }

    void tear() {
        newCard();
        due("tear(0)", card.tear(0), 1);
        due("tear(-1)", card.tear(-1), 1);
        due("none is set below 0", runToRoot(0, 5), DONE);
        due("tear(MIN)", card.tear(Integer.MIN_VALUE), 1);
        due("none is set by it", runToRoot(0, 6), DONE);
        due("tear(MAX)", card.tear(Integer.MAX_VALUE), 1);
        due("far away", runToRoot(0, 7), DONE);
        card.tear(2);
        due("first of 2", runToRoot(1, 5), DONE);
        due("no write between", run(END), DONE);
        due("second of 2", runToRoot(2, 5), DONE);
        due("the one behind them", runToRoot(3, 5), OFF);
        due("tear without power", card.tear(1), 1);
        due("reset", card.reset(), 0);
        due("it is not done", card.cell(1, 3), 0);
        due("the second is", card.cell(1, 2), 5);
        due("the tear set without power: first", runToRoot(3, 5), DONE);
        due("the tear set without power: met", runToRoot(3, 6), OFF);
        card.reset();
        due("met once", runToRoot(3, 7), DONE);
        due("then none is set", runToRoot(4, 7), DONE);
        card.tear(0);
        card.tear(1);
        due("the latest is set", runToRoot(5, 7), DONE);
        due("and met", runToRoot(5, 8), OFF);
    }

    void reset() {
        newCard();
        due("with power", card.reset(), 0);
        powerOff();
        due("without a transaction", card.reset(), 0);
        due("power is on", card.objects(), 4);
        due("again", card.reset(), 0);
        card.tear(1);
        due("in a transaction", run(join(op(OPEN), toRoot(0, 5), toRoot(1, 5))), OFF);
        due("it is undone", card.reset(), 1);
        due("once", card.reset(), 0);
        due("so that the cell is as before", card.cell(1, 0), 0);
        due("and none is open", run(IS_OPEN, END_WITH), DONE);
        due("as the program sees", card.value(), 0);
        card.tear(0);
        due("reset with power on", card.reset(), 0);
        due("leaves the tear", runToRoot(0, 5), OFF);
    }

    void objects() {
        newCard();
        run(NEW_SHORTS, 1, END);
        due("a new one", card.objects(), 5);
        due("without power", powerOff().objects(), BAD);
        card.reset();
        due("with power again", card.objects(), 5);
        run(OPEN, NEW_SHORTS, 1, NEW_BYTES, 3, UNDO, END);
        due("undone", card.objects(), 5);
        run(OPEN, NEW_SHORTS, 1, NEW_BYTES, 3, CLOSE, END);
        due("whole", card.objects(), 7);
    }

    void told() {
        newCard();
        runOf(2, NEW_BYTES, 16, NEW_SHORTS, 1, END);
        due("owner", card.told(5, 0), 2);
        due("BYTES", card.told(5, 1), 1);
        due("size", card.told(5, 2), 16);
        due("SHORTS", card.told(6, 1), 0);
        due("size 1", card.told(6, 2), 1);
        due("object 0", card.told(0, 0), BAD);
        due("object -1", card.told(-1, 0), BAD);
        due("object 7", card.told(7, 0), BAD);
        due("object MAX", card.told(Integer.MAX_VALUE, 0), BAD);
        due("what -1", card.told(5, -1), BAD);
        due("what 3", card.told(5, 3), BAD);
        due("what MIN", card.told(5, Integer.MIN_VALUE), BAD);
        powerOff();
        for (int what = 0; what < 3; what++) {
            due("without power", card.told(5, what), BAD);
        }
        card.reset();
        due("with power again", card.told(5, 2), 16);
    }

    void cell() {
        newCard();
        run(join(toRoot(0, -32768), toRoot(7, 32767), op(END)));
        due("cell 0", card.cell(1, 0), -32768);
        due("cell 7", card.cell(1, 7), 32767);
        due("cell 8", card.cell(1, 8), 0);
        due("cell -1", card.cell(1, -1), 0);
        due("cell MAX", card.cell(1, Integer.MAX_VALUE), 0);
        due("cell MIN", card.cell(1, Integer.MIN_VALUE), 0);
        due("object 0", card.cell(0, 0), 0);
        due("object 5", card.cell(5, 0), 0);
        due("object MAX", card.cell(Integer.MAX_VALUE, 0), 0);
        due("object MIN", card.cell(Integer.MIN_VALUE, 0), 0);
        run(NEW_BYTES, 2, PUT, 1, PUT_WORD, 1, 200, WRITE, END);
        due("lowest byte with sign", card.cell(5, 1), -56);
        due("its neighbour", card.cell(5, 0), 0);
        due("behind the last of an object", card.cell(5, 2), 0);
        powerOff();
        due("without power", card.cell(1, 0), 0);
        card.reset();
        due("it stays without power", card.cell(1, 0), -32768);
    }

    private static int[] toRoot(int i, int x) {
        return join(op(ROOT, PUT, i), put(x), op(WRITE));
    }

    private int runToRoot(int i, int x) {
        return run(join(toRoot(i, x), op(END)));
    }

    /** Takes the power away by a write that changes nothing, in code that the tests don't use. */
    private CountedCard powerOff() {
        method(14, 0, 500, NEW_SHORTS, 1, END);
        card.tear(0);
        due("power off", card.run(14, 9), OFF);
        return card;
    }
}
