import java.util.Arrays;

/**
 * A card: programs of several owners for a machine of 16 bits, objects that stay without power, a
 * wall between owners, transactions that are whole or nothing whatever write is torn, commands and
 * replies.
 */
public final class CardMachine {
    public static final int BAD = -1;
    public static final int OFF = -2;
    public static final int FULL = -3;

    private static final int DONE = 0;
    private static final int GOING = 1;
    private static final int NO_FUEL = 10;
    private static final int UNCAUGHT = 20;

    private static final int OWNERS = 4;
    private static final int CARD = 0;
    private static final int CODE_BYTES = 512;
    private static final int METHODS = 16;
    private static final int MAX_FUEL = 3000;
    private static final int FRAMES = 8;
    private static final int LOCALS = 8;
    private static final int STACK_VALUES = 16;
    private static final int ARGUMENT_COUNTS = 9;
    private static final int CONDITIONS = 6;
    private static final int VALUE_BITS = 16;
    private static final int ROW_BYTES = 32;

    private static final int SHORTS = 0;
    private static final int BYTES = 1;
    private static final int MAX_OBJECTS = 40;
    private static final int MAX_CELLS = 240;
    private static final int MAX_SIZE = 16;
    private static final int ROOT_SIZE = 8;
    private static final int MAX_THINGS = 20;

    // No value of 16 bits, as each of those may be thrown.
    private static final int FINE = 1 << 16;
    private static final int DIVIDED_BY_ZERO = 1;
    private static final int NO_OBJECT = 2;
    private static final int NO_CELL = 3;
    private static final int WALL = 4;
    private static final int TOO_MANY_THINGS = 5;
    private static final int STACK_OR_FULL = 6;
    private static final int NO_CODE = 7;
    private static final int NO_ROOM = 8;
    private static final int WRONG_TRANSACTION = 9;
    private static final int NOT_BYTES = 11;

    // No place that an instruction can name, as places a little out of code can be handlers.
    private static final int NO_HANDLER = -1024;
    private static final int NO_TEAR = -1;

    private static final int MOVE = 0;
    private static final int RECKON = 1;
    private static final int JUMP = 2;
    private static final int FRAME = 3;
    private static final int OBJECT = 4;
    private static final int TRANSACTION = 5;
    private static final int TALK = 6;
    private static final int THROW = 7;

    private static final Op[] OPS = Op.values();

    private final Processor processor = new Processor();

    public CardMachine() {
    }

    public int code(int i, int v) {
        if (!isByte(v)) {
            return BAD;
        }
        return codes(i, v, 1);
    }

    public int codes(int i, long v, int n) {
        if (n < 1 || n > 8 || i < 0 || i > CODE_BYTES - n) {
            return BAD;
        }
        for (int k = 0; k < n; k++) {
            processor.code[i + k] = (int) (v >>> 8 * (n - 1 - k)) & 0xFF;
        }
        return 1;
    }

    public int method(int m, int owner, int from, boolean open) {
        if (!isMethod(m) || owner < 0 || owner >= OWNERS || from < 0 || from >= CODE_BYTES) {
            return BAD;
        }
        Method changed = processor.methods[m];
        changed.owner = owner;
        changed.from = from;
        changed.open = open;
        return 1;
    }

    public int type(int b) {
        if (!isByte(b)) {
            return BAD;
        }
        if (processor.command.isFull()) {
            return FULL;
        }
        processor.command.add(b);
        return processor.command.length;
    }

    public int run(int m, int fuel) {
        if (!isMethod(m) || fuel < 1 || fuel > MAX_FUEL) {
            return BAD;
        }
        return processor.perform(processor.methods[m], fuel);
    }

    public int thrown0() {
        return processor.uncaught;
    }

    public int value() {
        return processor.result;
    }

    public int reply(int i) {
        return processor.reply.has(i) ? processor.reply.bytes[i] : BAD;
    }

    public int used() {
        return processor.spent;
    }

    public int tear(int n) {
        processor.store.power.setTear(n);
        return 1;
    }

    public int reset() {
        Store store = processor.store;
        if (store.power.on) {
            return 0;
        }
        store.power.on = true;
        return store.undo() ? 1 : 0;
    }

    public int objects() {
        Store store = processor.store;
        return store.power.on ? store.objectCount : BAD;
    }

    public int told(int object, int what) {
        Store store = processor.store;
        if (!store.power.on || !store.has(object)) {
            return BAD;
        }
        switch (what) {
            case 0: return store.owners[object];
            case 1: return store.sorts[object];
            case 2: return store.sizes[object];
            default: return BAD;
        }
    }

    public int cell(int object, int i) {
        Store store = processor.store;
        if (!store.power.on || !store.has(object) || !store.hasCells(object, i, 1)) {
            return 0;
        }
        return store.read(object, i);
    }

    private static boolean isByte(int v) {
        return v >= 0 && v <= 0xFF;
    }

    private static boolean isMethod(int m) {
        return m >= 0 && m < METHODS;
    }

    /**
     * The instructions, in the order of their numbers: of what kind, how many bytes of code, how
     * many values are taken off the stack, and how many are put to it.
     */
    private enum Op {
        NOTHING(MOVE, 1, 0, 0),
        PUT_BYTE(MOVE, 2, 0, 1),
        PUT_WORD(MOVE, 3, 0, 1),
        LOCAL(MOVE, 2, 0, 1),
        SET_LOCAL(MOVE, 2, 1, 0),
        ADD_TO_LOCAL(MOVE, 3, 0, 0),
        ADD(RECKON, 1, 2, 1),
        SUBTRACT(RECKON, 1, 2, 1),
        MULTIPLY(RECKON, 1, 2, 1),
        DIVIDE(RECKON, 1, 2, 1),
        REMAINDER(RECKON, 1, 2, 1),
        NEGATE(RECKON, 1, 1, 1),
        AND(RECKON, 1, 2, 1),
        OR(RECKON, 1, 2, 1),
        XOR(RECKON, 1, 2, 1),
        SHIFT_LEFT(RECKON, 1, 2, 1),
        SHIFT_RIGHT(RECKON, 1, 2, 1),
        SHIFT_BITS_RIGHT(RECKON, 1, 2, 1),
        DOUBLE(MOVE, 1, 1, 2),
        DROP(MOVE, 1, 1, 0),
        SWAP(MOVE, 1, 2, 2),
        GO(JUMP, 2, 0, 0),
        GO_IF(JUMP, 3, 1, 0),
        GO_IF_COMPARED(JUMP, 3, 2, 0),
        CALL_OWN(FRAME, 3, 0, 0),
        END(FRAME, 1, 0, 0),
        END_WITH(FRAME, 1, 1, 0),
        CALL_OPEN(FRAME, 3, 0, 0),
        NEW_SHORTS(OBJECT, 2, 0, 1),
        NEW_BYTES(OBJECT, 2, 0, 1),
        READ(OBJECT, 1, 2, 1),
        WRITE(OBJECT, 1, 3, 0),
        SIZE(OBJECT, 1, 1, 1),
        ROOT(OBJECT, 1, 0, 1),
        OWNER(OBJECT, 1, 1, 1),
        COPY(OBJECT, 1, 5, 0),
        OPEN(TRANSACTION, 1, 0, 0),
        CLOSE(TRANSACTION, 1, 0, 0),
        UNDO(TRANSACTION, 1, 0, 0),
        IS_OPEN(TRANSACTION, 1, 0, 1),
        COMMAND_BYTE(TALK, 1, 1, 1),
        COMMAND_LENGTH(TALK, 1, 0, 1),
        REPLY_BYTE(TALK, 1, 1, 0),
        THROW_VALUE(THROW, 1, 1, 0),
        HANDLE(THROW, 2, 0, 0),
        HANDLE_NOT(THROW, 1, 0, 0);

        final int kind;
        final int length;
        final int takes;
        final int puts;

        Op(int kind, int length, int takes, int puts) {
            this.kind = kind;
            this.length = length;
            this.takes = takes;
            this.puts = puts;
        }
    }

    private static final class Method {
        int owner;
        int from;
        boolean open;
    }

    /** The bytes of a command or of a reply. */
    private static final class ByteRow {
        final int[] bytes = new int[ROW_BYTES];
        int length;

        boolean isFull() {
            return length == ROW_BYTES;
        }

        boolean has(int i) {
            return i >= 0 && i < length;
        }

        void add(int b) {
            bytes[length] = b;
            length++;
        }
    }

    private static final class Frame {
        final int[] locals = new int[LOCALS];
        final int[] stack = new int[STACK_VALUES];
        int height;
        int owner;
        int place;
        int handler;

        void begin(Method method) {
            Arrays.fill(locals, 0);
            height = 0;
            owner = method.owner;
            place = method.from;
            handler = NO_HANDLER;
        }

        boolean hasRoom(int values) {
            return height + values <= STACK_VALUES;
        }

        void push(int x) {
            stack[height] = (short) x;
            height++;
        }

        int pop() {
            height--;
            return stack[height];
        }

        int top() {
            return stack[height - 1];
        }

        void addToLocal(int k, int x) {
            locals[k] = (short) (locals[k] + x);
        }

        void handle(int thrown) {
            height = 0;
            push(thrown);
            place = handler;
            handler = NO_HANDLER;
        }
    }

    /** The power, and the tear that takes it away. */
    private static final class Power {
        boolean on = true;
        private int writesLeft = NO_TEAR;

        void setTear(int n) {
            writesLeft = n < 0 ? NO_TEAR : n;
        }

        /** Every write asks first: the torn one is refused, and the power is off. */
        boolean lastsForWrite() {
            if (writesLeft == 0) {
                writesLeft = NO_TEAR;
                on = false;
            } else if (writesLeft > 0) {
                writesLeft--;
            }
            return on;
        }
    }

    /** What stays without power: the objects, and what is needed to undo an open transaction. */
    private static final class Store {
        final Power power = new Power();
        final int[] owners = new int[MAX_OBJECTS + 1];
        final int[] sorts = new int[MAX_OBJECTS + 1];
        final int[] sizes = new int[MAX_OBJECTS + 1];
        int objectCount;
        boolean inTransaction;
        private final int[] firstCells = new int[MAX_OBJECTS + 1];
        private final int[] cells = new int[MAX_CELLS];
        private int cellCount;
        private final int[] writtenCells = new int[MAX_THINGS];
        private final int[] valuesBefore = new int[MAX_THINGS];
        private int cellWrites;
        private int things;
        private int objectsBefore;
        private int cellsBefore;

        Store() {
            for (int owner = 0; owner < OWNERS; owner++) {
                add(owner, SHORTS, ROOT_SIZE);
            }
        }

        boolean has(int object) {
            return object >= 1 && object <= objectCount;
        }

        boolean hasCells(int object, int from, int n) {
            return from >= 0 && from <= sizes[object] - n;
        }

        int read(int object, int i) {
            return cells[firstCells[object] + i];
        }

        int cellFault(int owner, int object, int i) {
            if (!has(object)) {
                return NO_OBJECT;
            }
            if (!mayUse(owner, object)) {
                return WALL;
            }
            return hasCells(object, i, 1) ? FINE : NO_CELL;
        }

        int thingFault() {
            return inTransaction && things == MAX_THINGS ? TOO_MANY_THINGS : FINE;
        }

        int makeFault(int size) {
            if (size < 1 || size > MAX_SIZE || size > MAX_CELLS - cellCount
                    || objectCount == MAX_OBJECTS) {
                return NO_ROOM;
            }
            return thingFault();
        }

        int copyFault(int owner, int source, int from, int target, int to, int n) {
            if (!has(source) || !has(target)) {
                return NO_OBJECT;
            }
            if (!mayUse(owner, source) || !mayUse(owner, target)) {
                return WALL;
            }
            if (sorts[source] != BYTES || sorts[target] != BYTES) {
                return NOT_BYTES;
            }
            if (n < 0) {
                return NO_ROOM;
            }
            return hasCells(source, from, n) && hasCells(target, to, n) ? FINE : NO_CELL;
        }

        void write(int object, int i, int x) {
            if (!power.lastsForWrite()) {
                return;
            }
            int place = firstCells[object] + i;
            if (inTransaction) {
                writtenCells[cellWrites] = place;
                valuesBefore[cellWrites] = cells[place];
                cellWrites++;
                things++;
            }
            cells[place] = sorts[object] == BYTES ? (byte) x : x;
        }

        /** Answers the reference, or 0 when the write is torn. */
        int make(int owner, int sort, int size) {
            if (!power.lastsForWrite()) {
                return 0;
            }
            if (inTransaction) {
                things++;
            }
            add(owner, sort, size);
            return objectCount;
        }

        /** One cell after the other, as the document asks where source and target overlap. */
        void copy(int source, int from, int target, int to, int n) {
            int read = firstCells[source] + from;
            int written = firstCells[target] + to;
            for (int k = 0; k < n && power.lastsForWrite(); k++) {
                cells[written + k] = cells[read + k];
            }
        }

        void begin() {
            inTransaction = true;
            things = 0;
            cellWrites = 0;
            objectsBefore = objectCount;
            cellsBefore = cellCount;
        }

        void close() {
            if (power.lastsForWrite()) {
                inTransaction = false;
            }
        }

        /** Answers whether there was a transaction to undo. */
        boolean undo() {
            if (!inTransaction) {
                return false;
            }
            // The latest first, so that what a cell had before its first write is what stays.
            for (int k = cellWrites - 1; k >= 0; k--) {
                cells[writtenCells[k]] = valuesBefore[k];
            }
            objectCount = objectsBefore;
            cellCount = cellsBefore;
            inTransaction = false;
            return true;
        }

        private boolean mayUse(int owner, int object) {
            return owner == CARD || owner == owners[object];
        }

        private void add(int owner, int sort, int size) {
            objectCount++;
            owners[objectCount] = owner;
            sorts[objectCount] = sort;
            sizes[objectCount] = size;
            firstCells[objectCount] = cellCount;
            // An object that was undone may have left its values here.
            Arrays.fill(cells, cellCount, cellCount + size, 0);
            cellCount += size;
        }
    }

    /**
     * Performs commands. What performs an instruction answers the value thrown, or FINE; it looks
     * for all that could be thrown before it does anything that a thrown value leaves to be seen.
     */
    private static final class Processor {
        final int[] code = new int[CODE_BYTES];
        final Method[] methods = new Method[METHODS];
        final Store store = new Store();
        final ByteRow command = new ByteRow();
        final ByteRow reply = new ByteRow();
        int uncaught;
        int result;
        int spent;
        private final Frame[] frames = new Frame[FRAMES];
        private int depth;
        private Frame frame;
        private int at;
        private int fuel;
        private int answer;

        Processor() {
            for (int m = 0; m < METHODS; m++) {
                methods[m] = new Method();
            }
            for (int k = 0; k < FRAMES; k++) {
                frames[k] = new Frame();
            }
        }

        int perform(Method first, int fuelGiven) {
            begin(first, fuelGiven);
            // One pass more than there is fuel: the last one finds that there is none.
            for (int pass = 0; pass <= fuel && answer == GOING && store.power.on; pass++) {
                if (spent >= fuel) {
                    answer = NO_FUEL;
                } else {
                    int fault = step();
                    if (fault != FINE) {
                        raise(fault);
                    }
                }
            }
            if (store.power.on) {
                store.undo();
            } else {
                answer = OFF;
                reply.length = 0;
            }
            command.length = 0;
            return answer;
        }

        private void begin(Method first, int fuelGiven) {
            fuel = fuelGiven;
            spent = 0;
            answer = GOING;
            uncaught = 0;
            result = 0;
            reply.length = 0;
            depth = 0;
            enter(first);
        }

        private int step() {
            spent++;
            at = frame.place;
            int fault = fetchFault();
            if (fault != FINE) {
                return fault;
            }
            Op op = OPS[code[at]];
            frame.place = at + op.length;
            switch (op.kind) {
                case MOVE: return move(op);
                case RECKON: return reckon(op);
                case JUMP: return jump(op);
                case FRAME: return callOrEnd(op);
                case OBJECT: return useObjects(op);
                case TRANSACTION: return changeTransaction(op);
                case TALK: return talk(op);
                default: return throwOrHandle(op);
            }
        }

        private int fetchFault() {
            if (at < 0 || at >= CODE_BYTES || code[at] >= OPS.length) {
                return NO_CODE;
            }
            Op op = OPS[code[at]];
            if (at + op.length > CODE_BYTES) {
                return NO_CODE;
            }
            if (frame.height < op.takes) {
                return STACK_OR_FULL;
            }
            // For a new object, all else that can be thrown comes before a full stack.
            if (op == Op.NEW_SHORTS || op == Op.NEW_BYTES) {
                return FINE;
            }
            return frame.hasRoom(op.puts - op.takes) ? FINE : STACK_OR_FULL;
        }

        /** The value falls through the frames to the first that has a handler. */
        private void raise(int thrown) {
            for (int k = depth; k > 0; k--) {
                if (frame.handler != NO_HANDLER) {
                    frame.handle(thrown);
                    return;
                }
                leave();
            }
            answer = UNCAUGHT;
            uncaught = thrown;
        }

        private void enter(Method method) {
            frame = frames[depth];
            depth++;
            frame.begin(method);
        }

        private void leave() {
            depth--;
            if (depth > 0) {
                frame = frames[depth - 1];
            }
        }

        private int unsigned(int k) {
            return code[at + k];
        }

        private int signed(int k) {
            return (byte) code[at + k];
        }

        private int put(int x) {
            frame.push(x);
            return FINE;
        }

        private int move(Op op) {
            switch (op) {
                case PUT_BYTE: return put(signed(1));
                case PUT_WORD: return put(signed(1) << 8 | unsigned(2));
                case LOCAL: return put(frame.locals[unsigned(1) % LOCALS]);
                case SET_LOCAL: frame.locals[unsigned(1) % LOCALS] = frame.pop(); return FINE;
                case ADD_TO_LOCAL: frame.addToLocal(unsigned(1) % LOCALS, signed(2)); return FINE;
                case DOUBLE: return put(frame.top());
                case DROP: frame.pop(); return FINE;
                case SWAP: return swap();
                default: return FINE;
            }
        }

        private int swap() {
            int y = frame.pop();
            int x = frame.pop();
            frame.push(y);
            return put(x);
        }

        private int reckon(Op op) {
            int y = frame.pop();
            if (op == Op.NEGATE) {
                return put(-y);
            }
            int x = frame.pop();
            int shift = Math.floorMod(y, VALUE_BITS);
            switch (op) {
                case ADD: return put(x + y);
                case SUBTRACT: return put(x - y);
                case MULTIPLY: return put(x * y);
                case DIVIDE: return y == 0 ? DIVIDED_BY_ZERO : put(x / y);
                case REMAINDER: return y == 0 ? DIVIDED_BY_ZERO : put(x % y);
                case AND: return put(x & y);
                case OR: return put(x | y);
                case XOR: return put(x ^ y);
                case SHIFT_LEFT: return put(x << shift);
                case SHIFT_RIGHT: return put(x >> shift);
                default: return put((x & 0xFFFF) >>> shift);
            }
        }

        private int jump(Op op) {
            if (op == Op.GO) {
                frame.place = at + signed(1);
                return FINE;
            }
            int y = op == Op.GO_IF_COMPARED ? frame.pop() : 0;
            if (holds(unsigned(1) % CONDITIONS, frame.pop() - y)) {
                frame.place = at + signed(2);
            }
            return FINE;
        }

        private static boolean holds(int condition, int x) {
            switch (condition) {
                case 0: return x == 0;
                case 1: return x != 0;
                case 2: return x < 0;
                case 3: return x >= 0;
                case 4: return x > 0;
                default: return x <= 0;
            }
        }

        private int callOrEnd(Op op) {
            switch (op) {
                case END: return end();
                case END_WITH: return endWith(frame.pop());
                default: return call(op);
            }
        }

        private int call(Op op) {
            Method called = methods[unsigned(1) % METHODS];
            int n = unsigned(2) % ARGUMENT_COUNTS;
            if (frame.height < n) {
                return STACK_OR_FULL;
            }
            if (op == Op.CALL_OWN ? called.owner != frame.owner : !called.open) {
                return WALL;
            }
            if (depth == FRAMES) {
                return STACK_OR_FULL;
            }
            Frame caller = frame;
            enter(called);
            for (int k = n - 1; k >= 0; k--) {
                frame.locals[k] = caller.pop();
            }
            return FINE;
        }

        private int end() {
            leave();
            if (depth == 0) {
                answer = DONE;
            }
            return FINE;
        }

        private int endWith(int x) {
            end();
            if (depth == 0) {
                result = x;
                return FINE;
            }
            // The caller throws, not the frame that ended.
            return frame.hasRoom(1) ? put(x) : STACK_OR_FULL;
        }

        private int useObjects(Op op) {
            switch (op) {
                case NEW_SHORTS: return makeObject(SHORTS);
                case NEW_BYTES: return makeObject(BYTES);
                case READ: return readCell();
                case WRITE: return writeCell();
                case SIZE: return putSize(frame.pop());
                case ROOT: return put(frame.owner + 1);
                case OWNER: return putOwner(frame.pop());
                default: return copyCells();
            }
        }

        private int makeObject(int sort) {
            int size = unsigned(1);
            int fault = store.makeFault(size);
            if (fault != FINE) {
                return fault;
            }
            if (!frame.hasRoom(1)) {
                return STACK_OR_FULL;
            }
            return put(store.make(frame.owner, sort, size));
        }

        private int readCell() {
            int i = frame.pop();
            int object = frame.pop();
            int fault = store.cellFault(frame.owner, object, i);
            return fault != FINE ? fault : put(store.read(object, i));
        }

        private int writeCell() {
            int x = frame.pop();
            int i = frame.pop();
            int object = frame.pop();
            int fault = store.cellFault(frame.owner, object, i);
            if (fault == FINE) {
                fault = store.thingFault();
            }
            if (fault == FINE) {
                store.write(object, i, x);
            }
            return fault;
        }

        private int putSize(int object) {
            // Each object has a cell 0, so this looks for the object and its owner alone.
            int fault = store.cellFault(frame.owner, object, 0);
            return fault != FINE ? fault : put(store.sizes[object]);
        }

        private int putOwner(int object) {
            return store.has(object) ? put(store.owners[object]) : NO_OBJECT;
        }

        private int copyCells() {
            int n = frame.pop();
            int to = frame.pop();
            int target = frame.pop();
            int from = frame.pop();
            int source = frame.pop();
            int fault = store.copyFault(frame.owner, source, from, target, to, n);
            if (fault != FINE) {
                return fault;
            }
            if (n > fuel - spent) {
                answer = NO_FUEL;
                return FINE;
            }
            spent += n;
            store.copy(source, from, target, to, n);
            return FINE;
        }

        private int changeTransaction(Op op) {
            if (op == Op.IS_OPEN) {
                return put(store.inTransaction ? 1 : 0);
            }
            if (store.inTransaction == (op == Op.OPEN)) {
                return WRONG_TRANSACTION;
            }
            switch (op) {
                case OPEN: store.begin(); return FINE;
                case CLOSE: store.close(); return FINE;
                default: store.undo(); return FINE;
            }
        }

        private int talk(Op op) {
            switch (op) {
                case COMMAND_BYTE: return putCommandByte(frame.pop());
                case COMMAND_LENGTH: return put(command.length);
                default: return answerByte(frame.pop() & 0xFF);
            }
        }

        private int putCommandByte(int i) {
            return command.has(i) ? put((byte) command.bytes[i]) : NO_CELL;
        }

        private int answerByte(int b) {
            if (reply.isFull()) {
                return STACK_OR_FULL;
            }
            reply.add(b);
            return FINE;
        }

        private int throwOrHandle(Op op) {
            switch (op) {
                case THROW_VALUE: return frame.pop();
                case HANDLE: frame.handler = at + signed(1); return FINE;
                default: frame.handler = NO_HANDLER; return FINE;
            }
        }
    }
}
