import java.util.List;

/**
 * Calls that are refused: each answers what the document says, and nothing else has changed, by all
 * that can be seen of a card behind it and of one that was not asked. Calls that only ask change
 * nothing either.
 */
final class RefusedTest extends CardChecks {
    private static final int MIN = Integer.MIN_VALUE;
    private static final int MAX = Integer.MAX_VALUE;

    private List<String> seenBefore;
    private History history;
    private String name;

    public static void main(String[] args) {
        RefusedTest test = new RefusedTest();
        test.seeing();
        test.of("a new card", RefusedTest::nothing);
        test.of("behind a value", RefusedTest::ended);
        test.of("behind a thrown value", RefusedTest::thrown);
        test.of("behind no fuel", RefusedTest::withoutFuel);
        test.of("behind a full command", RefusedTest::fullCommand);
        test.of("without power", RefusedTest::withoutPower);
        test.of("without power, with a transaction", RefusedTest::withoutPowerInTransaction);
        test.of("where all is full", RefusedTest::full);
        test.end();
    }

    private static void nothing(CountedCard card) {
    }

    /** Code in all places, methods, objects with values, a tear, and a command that is begun. */
    private static void prepared(CountedCard card) {
        for (int i = 8; i < 512; i += 8) {
            card.codes(i, 0x0123456789ABCDEFL * (i + 3), 8);
        }
        CodeBytes.load(card, 400, join(op(NEW_BYTES, 3, NEW_SHORTS, 2), write(5, 0, -8), write(5, 2, 9),
                write(6, 1, 300), write(2, 0, 55), write(1, 7, -56), op(END)));
        card.method(0, 0, 400, true);
        card.run(0, 99);
        for (int m = 0; m <= 15; m++) {
            card.method(m, m * 3 % 4, m * 31, m % 3 == 1);
        }
        CodeBytes.load(card, 0, PUT, 88, REPLY, PUT, -7, REPLY, NOTHING, NOTHING);
    }

    private static void begunAgain(CountedCard card) {
        card.tear(5);
        card.type(7);
        card.type(200);
    }

    private static void ended(CountedCard card) {
        prepared(card);
        CodeBytes.load(card, 8, PUT, 77, END_WITH);
        card.run(0, 99);
        begunAgain(card);
    }

    private static void thrown(CountedCard card) {
        prepared(card);
        CodeBytes.load(card, 8, PUT, 79, THROW);
        card.run(0, 99);
        begunAgain(card);
    }

    private static void withoutFuel(CountedCard card) {
        prepared(card);
        CodeBytes.load(card, 8, GO, 0);
        card.run(0, 99);
        begunAgain(card);
    }

    private static void fullCommand(CountedCard card) {
        ended(card);
        for (int k = 3; k <= 32; k++) {
            card.type(100 + k);
        }
    }

    private static void withoutPower(CountedCard card) {
        prepared(card);
        CodeBytes.load(card, 8, join(write(2, 3, 4), write(2, 4, 5)));
        card.method(0, 1, 0, true);
        card.tear(1);
        card.run(0, 99);
        begunAgain(card);
    }

    private static void withoutPowerInTransaction(CountedCard card) {
        prepared(card);
        CodeBytes.load(card, 8, join(op(OPEN), write(2, 0, 4), op(NEW_SHORTS, 3, DROP), write(2, 4, 5)));
        card.method(0, 1, 0, true);
        card.tear(2);
        card.run(0, 99);
        begunAgain(card);
    }

    /** 40 objects, 32 bytes of reply and of command. */
    private static void full(CountedCard card) {
        prepared(card);
        CodeBytes.load(card, 6, join(times(34, NEW_SHORTS, 1, DROP), times(30, PUT, 3, REPLY),
                op(PUT, 4, END_WITH)));
        card.run(0, 500);
        card.tear(0);
        for (int k = 1; k <= 32; k++) {
            card.type(k);
        }
    }

    private interface Call {
        int on(CountedCard card);
    }

    /** Nothing has changed, but in what is seen in lines that begin as those do. */
    private void refused(String call, int want, Call asked, String... but) {
        int[] answer = new int[1];
        List<String> seen = Seen.of(card -> {
            history.doneWith(card);
            answer[0] = asked.on(card);
        });
        due(name + ": " + call, answer[0], want);
        String difference = Seen.difference(seenBefore, seen, but);
        due(name + ": what " + call + " changes: " + difference, difference.length(), 0);
    }

    private void of(String what, History before) {
        name = what;
        history = before;
        seenBefore = Seen.of(before);
        code();
        codes();
        method();
        type();
        run();
        asking();
        objects();
        reset();
    }

    /** Nothing of this would be worth anything if changes were not seen. */
    private void seeing() {
        History[] changed = {
            card -> card.code(0, 2), card -> card.code(1, 2), card -> card.code(255, 2), card -> card.code(510, 2),
            card -> card.code(511, 2), card -> card.method(0, 2, 0, true), card -> card.method(3, 0, 93, false),
            card -> card.method(3, 1, 94, false), card -> card.method(3, 1, 93, true),
            card -> card.method(15, 1, 465, true), card -> card.type(1), card -> card.tear(6),
            card -> card.tear(-1), card -> card.run(1, 1),
        };
        seenBefore = Seen.of(RefusedTest::ended);
        due("seen twice", Seen.difference(seenBefore, Seen.of(RefusedTest::ended)).length(), 0);
        for (int k = 0; k < changed.length; k++) {
            History change = changed[k];
            List<String> seen = Seen.of(card -> {
                ended(card);
                change.doneWith(card);
            });
            due("change " + k + " is seen", Seen.difference(seenBefore, seen).isEmpty() ? 0 : 1, 1);
        }
        int[] code = Seen.codeOf(card -> CodeBytes.load(card, 504, 1, 2, 3, 4, 250, 251, 252, 253));
        for (int i = 504; i < 512; i++) {
            due("code " + i + " is seen", code[i], i < 508 ? i - 503 : i - 258);
        }
    }

    /** Promise 2: Byte i of code becomes v (0 .. 255): 1; BAD. */
    private void code() {
        for (int i : new int[] {-1, 512, 513, -512, 1024, MIN, MAX}) {
            refused("code(" + i + ", 5)", BAD, card -> card.code(i, 5));
        }
        for (int v : new int[] {-1, 256, 257, -256, MIN, MAX}) {
            refused("code(100, " + v + ")", BAD, card -> card.code(100, v));
            refused("code(511, " + v + ")", BAD, card -> card.code(511, v));
        }
        refused("code(512, 256)", BAD, card -> card.code(512, 256));
        refused("code(-1, -1)", BAD, card -> card.code(-1, -1));
    }

    /** Promise 3: The lowest n bytes of v (1 .. 8) ...: 1; BAD when that is not all code. */
    private void codes() {
        for (int n : new int[] {0, -1, 9, 16, -8, MIN, MAX}) {
            refused("codes(100, v, " + n + ")", BAD, card -> card.codes(100, 0x1122334455667788L, n));
            refused("codes(511, v, " + n + ")", BAD, card -> card.codes(511, -1L, n));
        }
        for (int n = 1; n <= 8; n++) {
            int length = n;
            refused("codes(one too high, v, " + n + ")", BAD, card -> card.codes(513 - length, -1L, length));
            refused("codes(-1, v, " + n + ")", BAD, card -> card.codes(-1, -1L, length));
            refused("codes(512, v, " + n + ")", BAD, card -> card.codes(512, -1L, length));
            refused("codes(MAX, v, " + n + ")", BAD, card -> card.codes(MAX, -1L, length));
            refused("codes(MIN, v, " + n + ")", BAD, card -> card.codes(MIN, -1L, length));
        }
        refused("codes(-7, v, 8)", BAD, card -> card.codes(-7, -1L, 8));
        refused("codes(-8, v, 8)", BAD, card -> card.codes(-8, -1L, 8));
    }

    /** Promise 4: A method has another owner, beginning (0 .. 511), and is open or not: 1; BAD. */
    private void method() {
        for (boolean open : new boolean[] {false, true}) {
            for (int m : new int[] {-1, 16, 17, -16, MIN, MAX}) {
                refused("method(" + m + ", 1, 9)", BAD, card -> card.method(m, 1, 9, open));
            }
            for (int owner : new int[] {-1, 4, 5, -4, MIN, MAX}) {
                refused("method(3, " + owner + ", 9)", BAD, card -> card.method(3, owner, 9, open));
            }
            for (int from : new int[] {-1, 512, 513, -512, MIN, MAX}) {
                refused("method(3, 2, " + from + ")", BAD, card -> card.method(3, 2, from, open));
            }
            refused("method(16, 4, 512)", BAD, card -> card.method(16, 4, 512, open));
        }
    }

    /** Promise 5: A byte (0 .. 255) behind the next command: ... BAD; FULL when it has 32. */
    private void type() {
        for (int b : new int[] {-1, 256, 257, -256, MIN, MAX}) {
            refused("type(" + b + ")", BAD, card -> card.type(b));
        }
        if (name.equals("behind a full command") || name.equals("where all is full")) {
            for (int b : new int[] {0, 7, 255}) {
                refused("type(" + b + ")", CardMachine.FULL, card -> card.type(b));
            }
        }
    }

    /** Promise 6: BAD (then all stays as it is). The command is empty then (but behind BAD). */
    private void run() {
        for (int m : new int[] {-1, 16, 17, -16, MIN, MAX}) {
            refused("run(" + m + ", 9)", BAD, card -> card.run(m, 9));
        }
        for (int fuel : new int[] {0, -1, 3001, 3002, MIN, MAX}) {
            refused("run(0, " + fuel + ")", BAD, card -> card.run(0, fuel));
        }
        refused("run(16, 0)", BAD, card -> card.run(16, 0));
        if (objectsBefore() == BAD) {
            refused("run(0, 3000)", OFF, card -> card.run(0, 3000), "used =", "its length", "its byte");
        }
    }

    /** Promises 7 to 10: what is asked of the latest run. */
    private void asking() {
        refused("thrown0()", name.equals("behind a thrown value") ? 79 : 0, card -> card.thrown0());
        refused("value()", name.equals("behind a value") || name.equals("behind a full command") ? 77
                : name.equals("where all is full") ? 4 : 0, card -> card.value());
        boolean none = name.startsWith("without power") || name.equals("a new card");
        refused("reply(0)", none ? BAD : 88, card -> card.reply(0));
        refused("reply(1)", none ? BAD : 0xF9, card -> card.reply(1));
        for (int i : new int[] {-1, 32, 33, MIN, MAX}) {
            refused("reply(" + i + ")", BAD, card -> card.reply(i));
        }
        if (!name.equals("where all is full")) {
            refused("reply(2)", BAD, card -> card.reply(2));
            refused("reply(31)", BAD, card -> card.reply(31));
        }
        refused("used()", usedBefore(), card -> card.used());
    }

    private int usedBefore() {
        switch (name) {
            case "a new card": return 0;
            case "behind no fuel": return 99;
            case "without power": return 14;
            case "without power, with a transaction": return 17;
            case "where all is full": return 4 + 68 + 60 + 2;
            default: return 8;
        }
    }

    private int objectsBefore() {
        switch (name) {
            case "a new card": return 4;
            case "where all is full": return 40;
            default: return name.startsWith("without power") ? BAD : 6;
        }
    }

    /** Promises 13 to 15: BAD without power; BAD (also without power); 0 when there is none, or no power. */
    private void objects() {
        int objects = objectsBefore();
        refused("objects()", objects, card -> card.objects());
        int behind = objects == BAD ? 7 : objects + 1;
        for (int object : new int[] {0, -1, behind, behind + 1, 256 + 1, MIN, MAX}) {
            for (int what = 0; what <= 2; what++) {
                int asked = what;
                refused("told(" + object + ", " + what + ")", BAD, card -> card.told(object, asked));
            }
            refused("cell(" + object + ", 0)", 0, card -> card.cell(object, 0));
        }
        for (int what : new int[] {-1, 3, 4, MIN, MAX}) {
            refused("told(1, " + what + ")", BAD, card -> card.told(1, what));
        }
        for (int i : new int[] {-1, 8, 9, 15, 16, 240, MIN, MAX}) {
            refused("cell(1, " + i + ")", 0, card -> card.cell(1, i));
            refused("cell(4, " + i + ")", 0, card -> card.cell(4, i));
        }
        refused("told(4, 2)", objects == BAD ? BAD : 8, card -> card.told(4, 2));
        boolean prepared = objects != BAD && objects != 4;
        refused("cell(1, 7)", prepared ? -56 : 0, card -> card.cell(1, 7));
        refused("cell(2, 0)", prepared ? 55 : 0, card -> card.cell(2, 0));
    }

    /** Promise 12: (0 while it is on; nothing is done then). */
    private void reset() {
        if (objectsBefore() != BAD) {
            refused("reset()", 0, card -> card.reset());
        }
    }
}
