/**
 * Promises 1 to 15: each number at its boundary, one below it and one above it. The comment of a
 * test is the document's sentence. That refused calls change nothing: see RefusedTest.
 */
final class PromisesEdgesTest extends CardChecks {
    private static final int MIN = Integer.MIN_VALUE;
    private static final int MAX = Integer.MAX_VALUE;

    public static void main(String[] args) {
        PromisesEdgesTest test = new PromisesEdgesTest();
        test.codeIsZero();
        test.rootsAlone();
        test.powerOnNoTear();
        test.code();
        test.codeBytes();
        test.codes();
        test.codesOfEachLength();
        test.methodArguments();
        test.methodHasAnother();
        test.typeBytes();
        test.typeUntilFull();
        test.runArguments();
        test.runArgumentsOfFrame();
        test.fuelForEnd();
        test.fuelForThrown();
        test.fuelForCopy();
        test.fuelWhenTorn();
        test.answersOfRun();
        test.offWithoutPower();
        test.commandIsEmptyThen();
        test.thrown0();
        test.value();
        test.reply();
        test.used();
        test.tear();
        test.reset();
        test.objects();
        test.told();
        test.cell();
        test.cellsAtTheEnd();
        test.whatNeedsNoPower();
        test.end();
    }

    /** Promise 1: Code is all 0. */
    void codeIsZero() {
        int[] code = Seen.codeOf(made -> made.reset());
        for (int i = 1; i < 512; i++) {
            due("code " + i, code[i], 0);
        }
        newCard();
        due("512 times 0", card.run(0, 512), NO_FUEL);
        due("and no further", card.run(0, 513), THROWN);
        due("as there is no code", card.thrown0(), 7);
        due("used", card.used(), 513);
    }

    /** Promise 1: the roots alone. */
    void rootsAlone() {
        newCard();
        due("objects", card.objects(), 4);
        for (int root = 1; root <= 4; root++) {
            due("owner", card.told(root, 0), root - 1);
            due("sort", card.told(root, 1), 0);
            due("size", card.told(root, 2), 8);
            for (int i = 0; i < 8; i++) {
                due("cell " + i, card.cell(root, i), 0);
            }
        }
        due("object 5", card.told(5, 0), BAD);
    }

    /** Promise 1: power is on, no tear. */
    void powerOnNoTear() {
        newCard();
        due("reset", card.reset(), 0);
        due("40 writes", run(join(times(40, ROOT, PUT, 0, PUT, 1, WRITE), op(END))), DONE);
        due("thrown0 of a new one", new CountedCard().thrown0(), 0);
        due("value of a new one", new CountedCard().value(), 0);
        due("used of a new one", new CountedCard().used(), 0);
        due("reply of a new one", new CountedCard().reply(0), BAD);
        due("the first byte of a command", new CountedCard().type(9), 1);
    }

    /** Promise 2: Byte i of code becomes v. */
    void code() {
        for (int i : new int[] {1, 2, 255, 256, 510, 511}) {
            int[] code = Seen.codeOf(made -> made.code(i, 99));
            for (int k = 1; k < 512; k++) {
                due("code " + k + " when " + i + " became 99", code[k], k == i ? 99 : 0);
            }
        }
        newCard();
        due("code(0, 25)", card.code(0, END), 1);
        due("runs", card.run(0, 9), DONE);
        due("once", card.used(), 1);
    }

    /** Promise 2: (0 .. 255). */
    void codeBytes() {
        for (int v : new int[] {0, 1, 127, 128, 254, 255}) {
            newCard();
            due("code(1, " + v + ")", card.code(1, v), 1);
            card.code(0, PUT);
            card.code(2, END_WITH);
            card.run(0, 9);
            due("byte " + v, card.value(), (byte) v);
            due("another for it", card.code(1, 255 - v), 1);
            card.run(0, 9);
            due("byte " + (255 - v), card.value(), (byte) (255 - v));
        }
        due("-1", card.code(1, -1), BAD);
        due("256", card.code(1, 256), BAD);
    }

    /** Promise 3: The lowest n bytes of v, the highest of them first, become code from byte i on. */
    void codes() {
        for (int n = 1; n <= 8; n++) {
            int length = n;
            for (int i : new int[] {1, 100, 512 - n}) {
                int[] code = Seen.codeOf(made -> made.codes(i, 0xF1E2D3C4B5A69788L, length));
                long rest = 0xF1E2D3C4B5A69788L << 64 - 8 * n;
                for (int k = i; k < i + n; k++) {
                    due("byte " + (k - i) + " of " + n, code[k], rest >>> 56);
                    rest <<= 8;
                }
                due("the byte before", i == 1 ? 0 : code[i - 1], 0);
                due("the byte behind", i + n == 512 ? 0 : code[i + n], 0);
            }
        }
    }

    /** Promise 3: n (1 .. 8); BAD when that is not all code. */
    void codesOfEachLength() {
        newCard();
        for (int n = 1; n <= 8; n++) {
            due(n + " at -1", card.codes(-1, 0L, n), BAD);
            due(n + " at 0", card.codes(0, 0L, n), 1);
            due(n + " at the last place", card.codes(512 - n, 0L, n), 1);
            due(n + " one behind it", card.codes(513 - n, 0L, n), BAD);
            due(n + " at 512", card.codes(512, 0L, n), BAD);
        }
        for (int n : new int[] {MIN, -1, 0, 9, MAX}) {
            due(n + " bytes", card.codes(0, 0L, n), BAD);
        }
        due("any v", card.codes(0, Long.MIN_VALUE, 8), 1);
        due("any v", card.codes(0, Long.MAX_VALUE, 1), 1);
        due("any v", card.codes(0, -1L, 1), 1);
    }

    /** Promise 4: 1; BAD. */
    void methodArguments() {
        newCard();
        int[][] bad = {{-1, 0, 0}, {16, 0, 0}, {0, -1, 0}, {0, 4, 0}, {0, 0, -1}, {0, 0, 512}, {MIN, MIN, MIN},
            {MAX, MAX, MAX}};
        int[][] good = {{0, 0, 0}, {15, 0, 0}, {0, 3, 0}, {0, 0, 511}, {15, 3, 511}};
        for (boolean open : new boolean[] {false, true}) {
            for (int[] one : bad) {
                due("method " + one[0] + " " + one[1] + " " + one[2], card.method(one[0], one[1], one[2], open), BAD);
            }
            for (int[] one : good) {
                due("method " + one[0] + " " + one[1] + " " + one[2], card.method(one[0], one[1], one[2], open), 1);
            }
        }
    }

    /** Promise 4: A method has another owner, beginning (0 .. 511), and is open or not. */
    void methodHasAnother() {
        newCard();
        load(0, PUT, 3, REPLY, ROOT, END_WITH);
        load(511, END);
        method(1, 0, 300, CALL_OPEN, 7, 0, END_WITH);
        for (int owner = 3; owner >= 0; owner--) {
            for (boolean open : new boolean[] {true, false, true}) {
                due("method 7", card.method(7, owner, 0, open), 1);
                due("run", card.run(7, 9), DONE);
                due("owner", card.value(), owner + 1);
                replies("beginning", 3);
                due("a call", card.run(1, 9), open ? DONE : THROWN);
                due("thrown by it", card.thrown0(), open ? 0 : 4);
            }
            due("method 7 at 511", card.method(7, owner, 511, true), 1);
            due("run at 511", card.run(7, 1), DONE);
            replies("beginning");
        }
        due("method 6 is as it was", card.run(6, 9), DONE);
        replies("at byte 0", 3);
    }

    /** Promise 5: A byte (0 .. 255) behind the next command: how many it has. BAD. */
    void typeBytes() {
        newCard();
        load(0, PUT, 0, COMMAND, REPLY, COMMAND_LENGTH, END_WITH);
        for (int b : new int[] {0, 1, 127, 128, 254, 255}) {
            due("type(-1)", card.type(-1), BAD);
            due("type(" + b + ")", card.type(b), 1);
            due("type(256)", card.type(256), BAD);
            due("run", card.run(0, 9), DONE);
            due("one byte", card.value(), 1);
            replies("which is it", b);
        }
        due("type(MIN)", card.type(MIN), BAD);
        due("type(MAX)", card.type(MAX), BAD);
    }

    /** Promise 5: FULL when it has 32. */
    void typeUntilFull() {
        newCard();
        load(0, PUT, 31, COMMAND, REPLY, COMMAND_LENGTH, END_WITH);
        for (int round = 0; round < 2; round++) {
            for (int k = 1; k <= 32; k++) {
                due("byte " + k, card.type(k), k);
            }
            due("a 33rd", card.type(33), CardMachine.FULL);
            due("a 33rd again", card.type(0), CardMachine.FULL);
            due("a bad one", card.type(256), BAD);
            due("a bad one", card.type(-1), BAD);
            due("run", card.run(0, 9), DONE);
            due("32 bytes", card.value(), 32);
            replies("the last", 32);
        }
    }

    /** Promise 6: a method (0 .. 15), so much fuel (1 .. 3000); BAD. */
    void runArguments() {
        newCard();
        for (int m : new int[] {0, 1, 15}) {
            due("run(" + m + ", 1)", card.run(m, 1), NO_FUEL);
            due("run(" + m + ", 3000)", card.run(m, 3000), THROWN);
            due("run(" + m + ", 0)", card.run(m, 0), BAD);
            due("run(" + m + ", 3001)", card.run(m, 3001), BAD);
            due("run(" + m + ", -1)", card.run(m, -1), BAD);
            due("run(" + m + ", MIN)", card.run(m, MIN), BAD);
            due("run(" + m + ", MAX)", card.run(m, MAX), BAD);
        }
        for (int m : new int[] {MIN, -1, 16, MAX}) {
            due("run(" + m + ", 1)", card.run(m, 1), BAD);
            due("run(" + m + ", 3000)", card.run(m, 3000), BAD);
        }
        load(0, GO, 0);
        for (int fuel : new int[] {1, 2, 2999, 3000}) {
            due("run for " + fuel, card.run(0, fuel), NO_FUEL);
            due("uses it", card.used(), fuel);
        }
    }

    /** Promise 6: with no arguments. */
    void runArgumentsOfFrame() {
        newCard();
        card.type(9);
        int[] all = new int[0];
        for (int k = 0; k < 8; k++) {
            all = join(all, op(LOCAL, k, REPLY, PUT, 9, SET_LOCAL, k));
        }
        for (int round = 0; round < 2; round++) {
            due("run", run(join(all, op(END))), DONE);
            replies("locals", 0, 0, 0, 0, 0, 0, 0, 0);
        }
        throwsUp("the stack", 6, DROP);
    }

    /** Promise 6: 0 when its first frame ended, 10 when there is no fuel for the next. */
    void fuelForEnd() {
        newCard();
        for (int n : new int[] {1, 2, 100}) {
            method(0, 0, 0, join(times(n - 1, NOTHING), op(END)));
            if (n > 1) {
                due("one too little of " + n, card.run(0, n - 1), NO_FUEL);
                due("used", card.used(), n - 1);
            }
            due("just enough of " + n, card.run(0, n), DONE);
            due("used", card.used(), n);
            due("one more than " + n, card.run(0, n + 1), DONE);
            due("used", card.used(), n);
        }
        // 749 rounds of 4 instructions, and 4 behind them.
        load(0, ADD_TO_LOCAL, 0, 1, LOCAL, 0, PUT_WORD, 2, 237, GO_IF_COMPARED, 2, -8, NOTHING, NOTHING, NOTHING,
                END);
        due("one too little of 3000", card.run(0, 2999), NO_FUEL);
        due("just enough of 3000", card.run(0, 3000), DONE);
        due("used", card.used(), 3000);
    }

    /** Promise 6: 20 with a thrown value (an instruction takes 1, also one that throws). */
    void fuelForThrown() {
        newCard();
        method(0, 0, 0, PUT, 9, THROW);
        due("1 of 2", card.run(0, 1), NO_FUEL);
        due("2 of 2", card.run(0, 2), THROWN);
        due("3 of 2", card.run(0, 3), THROWN);
        due("used", card.used(), 2);
        method(0, 0, 0, join(taking(PUT, 9, THROW), op(END_WITH)));
        due("3 of 4", card.run(0, 3), NO_FUEL);
        due("used", card.used(), 3);
        due("no value", card.value(), 0);
        due("4 of 4", card.run(0, 4), DONE);
        due("the value", card.value(), 9);
        method(1, 0, 100, END_WITH);
        method(0, 0, 0, CALL, 1, 0);
        due("thrown through a caller", card.run(0, 2), THROWN);
        due("takes none there", card.used(), 2);
    }

    /** Promise 6: 35 takes n more when it is done; 10 when there is no n for 35. */
    void fuelForCopy() {
        for (int n : new int[] {0, 1, 2, 15, 16}) {
            newCard();
            run(join(op(NEW_BYTES, 16, NEW_BYTES, 16), write(5, 0, 7), write(5, 15, 7), op(END)));
            method(0, 0, 0, join(copy(5, 16 - n, 6, 0, n), op(END)));
            due("none for 35 of " + n, card.run(0, 5), NO_FUEL);
            due("used", card.used(), 5);
            if (n > 0) {
                due("none for n of " + n, card.run(0, 6), NO_FUEL);
                due("used", card.used(), 6);
                due("one too little for n of " + n, card.run(0, 5 + n), NO_FUEL);
                due("used", card.used(), 6);
                due("nothing is copied", card.cell(6, n - 1), 0);
            }
            due("none for the next of " + n, card.run(0, 6 + n), NO_FUEL);
            due("used", card.used(), 6 + n);
            due("copied", card.cell(6, n == 0 ? 0 : n - 1), n == 0 ? 0 : 7);
            due("enough for " + n, card.run(0, 7 + n), DONE);
            due("used", card.used(), 7 + n);
        }
    }

    /** Promise 6: OFF when a tear was met; used() is what was taken until then. */
    void fuelWhenTorn() {
        newCard();
        run(NEW_BYTES, 16, END);
        card.tear(0);
        due("31 torn, with no fuel behind it", runFor(4, write(1, 0, 1)), OFF);
        due("used", card.used(), 4);
        card.reset();
        card.tear(0);
        due("31 without fuel", runFor(3, write(1, 0, 1)), NO_FUEL);
        due("used", card.used(), 3);
        due("the tear is still set", runFor(4, write(1, 0, 1)), OFF);
        card.reset();
        card.tear(3);
        due("35 torn", runFor(22, copy(5, 0, 5, 0, 16)), OFF);
        due("used", card.used(), 22);
        card.reset();
        card.tear(3);
        due("35 without fuel", runFor(21, copy(5, 0, 5, 0, 16)), NO_FUEL);
        due("used", card.used(), 6);
    }

    private int runFor(int fuel, int... code) {
        method(0, 0, 0, code);
        return card.run(0, fuel);
    }

    /** Promise 6: 0, 10, 20; the reply is what was replied. */
    void answersOfRun() {
        newCard();
        int[] one = op(PUT, 8, REPLY);
        due("25", run(join(one, op(END))), DONE);
        replies("its reply", 8);
        due("26", run(join(one, one, op(PUT, 5, END_WITH))), DONE);
        replies("its reply", 8, 8);
        due("no fuel", run(join(one, op(GO, 0))), NO_FUEL);
        replies("its reply", 8);
        due("thrown", run(join(one, one, one, op(PUT, 5, THROW))), THROWN);
        replies("its reply", 8, 8, 8);
        due("nothing replied", run(END), DONE);
        replies("no reply");
        method(1, 2, 100, PUT, 9, REPLY, END);
        due("in called frames", run(join(one, op(CALL_OPEN, 1, 0), one, op(END))), DONE);
        replies("its reply", 8, 9, 8);
    }

    /** Promise 6: OFF when there is no power, or a tear was met (no reply then, thrown0() and value() 0). */
    void offWithoutPower() {
        for (int before : new int[] {END_WITH, THROW}) {
            newCard();
            run(PUT, 8, REPLY, PUT, 9, before);
            card.tear(0);
            due("a tear is met", run(join(op(PUT, 8, REPLY, PUT, 5), write(1, 0, 1), op(END_WITH))), OFF);
            off();
            due("used", card.used(), 7);
            due("no power", card.run(0, 3000), OFF);
            off();
            due("used", card.used(), 0);
            due("BAD", card.run(0, 3001), BAD);
            off();
            due("power", card.reset(), 0);
            off();
            due("run", run(PUT, 8, REPLY, PUT, 9, before), before == END_WITH ? DONE : THROWN);
            due("value", card.value(), before == END_WITH ? 9 : 0);
            due("thrown0", card.thrown0(), before == END_WITH ? 0 : 9);
        }
    }

    private void off() {
        due("value", card.value(), 0);
        due("thrown0", card.thrown0(), 0);
        replies("no reply");
    }

    /** Promise 6: The command is empty then (but behind BAD). */
    void commandIsEmptyThen() {
        newCard();
        card.type(5);
        run(END);
        due("behind 0", card.type(5), 1);
        run(GO, 0);
        due("behind 10", card.type(5), 1);
        run(DROP);
        due("behind 20", card.type(5), 1);
        due("BAD", card.run(0, 0), BAD);
        due("behind BAD", card.type(5), 2);
        card.tear(0);
        run(NEW_BYTES, 1);
        due("behind a tear", card.type(5), 1);
        due("no power", card.run(0, 1), OFF);
        due("behind OFF", card.type(5), 1);
        due("BAD without power", card.run(16, 1), BAD);
        due("behind it", card.type(5), 2);
        card.reset();
        due("reset leaves it", card.type(5), 3);
        ends("three bytes", 3, COMMAND_LENGTH, END_WITH);
        ends("then none", 0, COMMAND_LENGTH, END_WITH);
    }

    /** Promise 7: The value thrown with which the latest run() answered 20; 0 else. */
    void thrown0() {
        newCard();
        for (int x : new int[] {-32768, -1, 0, 1, 32767}) {
            throwsUp("43 of " + x, x, join(put(x), op(THROW)));
            due("asked again", card.thrown0(), x);
            due("BAD", card.run(0, 0), BAD);
            due("behind BAD", card.thrown0(), x);
            run(END);
            due("behind 0", card.thrown0(), 0);
            run(join(put(x), op(THROW)));
            run(GO, 0);
            due("behind 10", card.thrown0(), 0);
        }
        ends("one that was taken", 7, join(taking(PUT, 7, THROW), op(END_WITH)));
    }

    /** Promise 8: The value that the first frame of the latest run() ended with by 26 (0 for 25, or other answers). */
    void value() {
        newCard();
        method(1, 0, 100, PUT, 44, END_WITH);
        for (int x : new int[] {-32768, -1, 0, 1, 32767}) {
            int[] with = join(put(x), op(END_WITH));
            ends("26 with " + x, x, with);
            due("asked again", card.value(), x);
            due("BAD", card.run(0, 0), BAD);
            due("behind BAD", card.value(), x);
            ends("25", 0, join(put(x), op(END)));
            run(with);
            ends("a called frame's is not it", 0, CALL, 1, 0, END);
            run(with);
            run(GO, 0);
            due("behind 10", card.value(), 0);
            run(with);
            run(PUT, 5, THROW);
            due("behind 20", card.value(), 0);
        }
    }

    /** Promise 9: Byte i of the reply (0 .. 255); BAD when there is none. */
    void reply() {
        newCard();
        for (int n : new int[] {0, 1, 31, 32}) {
            run(join(times(n, PUT, -1 - n, REPLY), op(END)));
            due("byte -1 of " + n, card.reply(-1), BAD);
            due("byte 0 of " + n, card.reply(0), n == 0 ? BAD : 255 - n);
            due("the last of " + n, card.reply(n - 1), n == 0 ? BAD : 255 - n);
            due("one behind it of " + n, card.reply(n), BAD);
            due("byte 31 of " + n, card.reply(31), n == 32 ? 255 - n : BAD);
            due("byte 32 of " + n, card.reply(32), BAD);
            due("byte MIN of " + n, card.reply(MIN), BAD);
            due("byte MAX of " + n, card.reply(MAX), BAD);
        }
        run(PUT, 0, REPLY, PUT, 127, REPLY, PUT, -128, REPLY, PUT, -1, REPLY, END);
        replies("without sign", 0, 127, 128, 255);
    }

    /** Promise 10: How much fuel the latest run() used. */
    void used() {
        newCard();
        run(END);
        due("one", card.used(), 1);
        run(NOTHING, END);
        due("two", card.used(), 2);
        due("BAD", card.run(0, 0), BAD);
        due("behind BAD", card.used(), 2);
        run(GO, 0);
        due("all", card.used(), 3000);
        run(DROP);
        due("one that throws", card.used(), 1);
        method(1, 0, 100, NOTHING, END);
        run(CALL, 1, 0, END);
        due("in called frames", card.used(), 4);
        run(join(times(32, PUT, 1, REPLY), op(END)));
        due("32 bytes of reply", card.used(), 65);
    }

    /** Promise 11: A tear is set after n writes (0 or more), below 0 none: 1. */
    void tear() {
        for (int n : new int[] {MIN, -2, -1, 0, 1, 2, 39, 40, MAX}) {
            newCard();
            due("tear(" + n + ")", card.tear(n), 1);
            boolean met = n >= 0 && n < 40;
            due("40 writes", run(join(times(40, ADD_TO_LOCAL, 0, 1, ROOT, PUT, 0, LOCAL, 0, WRITE), op(END))),
                    met ? OFF : DONE);
            due("reset", card.reset(), 0);
            due("writes that were done", card.cell(1, 0), met ? n : 40);
        }
        newCard();
        card.tear(0);
        run(write(1, 0, 5));
        due("tear(1) without power", card.tear(1), 1);
        card.reset();
        due("holds then", run(join(write(1, 0, 5), write(1, 0, 6))), OFF);
        card.reset();
        due("behind the first write", card.cell(1, 0), 5);
    }

    /** Promise 12: Power comes again: 1 when a transaction was undone, 0 when not; (0 while it is on). */
    void reset() {
        newCard();
        due("a new card", card.reset(), 0);
        for (int open = 0; open <= 1; open++) {
            card.tear(1);
            due("torn", run(join(op(open == 1 ? OPEN : NOTHING), write(1, 0, 5 + open), write(1, 0, 9))), OFF);
            due("no power", card.objects(), BAD);
            due("reset", card.reset(), open);
            due("power", card.objects(), 4);
            due("the cell", card.cell(1, 0), 5);
            due("again", card.reset(), 0);
            due("the cell", card.cell(1, 0), 5);
        }
        card.tear(1);
        card.reset();
        due("while it is on the tear stays", run(join(write(1, 0, 5), write(1, 0, 9))), OFF);
    }

    /** Promise 13: How many objects there are; BAD without power. */
    void objects() {
        newCard();
        for (int n = 5; n <= 40; n++) {
            due("a new one", run(n % 2 == 0 ? NEW_BYTES : NEW_SHORTS, 1, END), DONE);
            due("objects", card.objects(), n);
        }
        throwsUp("no new one", 8, NEW_BYTES, 1);
        due("objects", card.objects(), 40);
        card.tear(0);
        run(write(1, 0, 1));
        due("without power", card.objects(), BAD);
        card.reset();
        due("with power", card.objects(), 40);
    }

    /** Promise 14: its owner (what = 0), sort (1), how many cells (2); BAD (also without power). */
    void told() {
        newCard();
        for (int owner = 0; owner <= 3; owner++) {
            runOf(owner, NEW_SHORTS, 1, NEW_BYTES, 16, END);
        }
        for (int object = 5; object <= 12; object++) {
            due("owner of " + object, card.told(object, 0), (object - 5) / 2);
            due("sort of " + object, card.told(object, 1), (object - 5) % 2);
            due("size of " + object, card.told(object, 2), object % 2 == 1 ? 1 : 16);
        }
        int[][] bad = {{0, 0}, {-1, 0}, {13, 0}, {MIN, 0}, {MAX, 0}, {1, -1}, {1, 3}, {12, MIN}, {12, MAX},
            {0, 3}, {13, -1}};
        for (int[] one : bad) {
            due("told(" + one[0] + ", " + one[1] + ")", card.told(one[0], one[1]), BAD);
        }
        due("told(1, 0)", card.told(1, 0), 0);
        due("told(12, 2)", card.told(12, 2), 16);
        card.tear(0);
        run(write(1, 0, 1));
        for (int what = -1; what <= 3; what++) {
            due("without power", card.told(1, what), BAD);
            due("without power", card.told(13, what), BAD);
        }
        card.reset();
        due("with power", card.told(12, 2), 16);
    }

    /** Promise 15: Cell i of an object; 0 when there is none, or no power. */
    void cell() {
        newCard();
        run(join(op(NEW_BYTES, 2, NEW_SHORTS, 3), write(4, 7, 47), write(5, 0, 50), write(5, 1, -128),
                write(6, 0, 60), write(6, 2, -32768), op(END)));
        due("the last of a root", card.cell(4, 7), 47);
        due("one behind it", card.cell(4, 8), 0);
        due("one before the first", card.cell(5, -1), 0);
        due("the first of BYTES", card.cell(5, 0), 50);
        due("the last of BYTES", card.cell(5, 1), -128);
        due("one behind it", card.cell(5, 2), 0);
        due("one before the first", card.cell(6, -1), 0);
        due("the first of SHORTS", card.cell(6, 0), 60);
        due("the last of SHORTS", card.cell(6, 2), -32768);
        due("one behind it", card.cell(6, 3), 0);
        for (int object : new int[] {MIN, -1, 0, 7, 8, 41, MAX}) {
            due("object " + object, card.cell(object, 0), 0);
        }
        for (int i : new int[] {MIN, 16, 240, 256, MAX}) {
            due("cell " + i, card.cell(6, i), 0);
        }
        card.tear(0);
        run(write(1, 0, 1));
        due("without power", card.cell(5, 0), 0);
        card.reset();
        due("with power", card.cell(5, 0), 50);
    }

    /** Promise 15, where an object is the last that has room. */
    void cellsAtTheEnd() {
        newCard();
        run(join(times(13, NEW_BYTES, 16, DROP), op(END)));
        due("the 240th", run(join(write(17, 15, 3), op(END))), DONE);
        due("is told", card.cell(17, 15), 3);
        due("one behind it", card.cell(17, 16), 0);
        due("object 18", card.cell(18, 0), 0);
        newCard();
        run(join(times(36, NEW_BYTES, 1, DROP), op(END)));
        due("the 40th", run(join(write(40, 0, 3), op(END))), DONE);
        due("is told", card.cell(40, 0), 3);
        due("one behind it", card.cell(40, 1), 0);
        due("object 41", card.cell(41, 0), 0);
    }

    /** Promises 2 to 5 and 11 name no power: they answer without it as with it. */
    void whatNeedsNoPower() {
        newCard();
        card.tear(0);
        due("a tear is met", run(write(1, 0, 1)), OFF);
        due("code", card.code(100, ROOT), 1);
        due("codes", card.codes(101, 0x29062A19L, 4), 1);
        due("method", card.method(5, 2, 100, false), 1);
        due("type", card.type(7), 1);
        due("tear", card.tear(1), 1);
        due("bad code", card.code(512, 0), BAD);
        due("bad codes", card.codes(505, 0L, 8), BAD);
        due("bad method", card.method(16, 0, 0, true), BAD);
        due("bad type", card.type(256), BAD);
        due("reset", card.reset(), 0);
        due("run", card.run(5, 9), DONE);
        replies("root 3 and one byte", 4);
        due("a write", run(join(write(1, 0, 1), op(END))), DONE);
        due("and the torn one", run(join(write(1, 0, 1), op(END))), OFF);
    }
}
