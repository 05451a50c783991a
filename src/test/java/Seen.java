import java.util.ArrayList;
import java.util.List;

/**
 * All that can be seen of a card with a history: its answers, and by programs all that no call
 * tells. Each view is of a card of its own, as most of them change what they look at.
 */
final class Seen implements Instructions {
    private final List<String> lines = new ArrayList<>();
    private final History history;
    private CountedCard card;

    private Seen(History history) {
        this.history = history;
    }

    static List<String> of(History history) {
        Seen seen = new Seen(history);
        seen.answers();
        seen.objectsAsTheyAre();
        seen.objectsWithPower();
        seen.codeAsItIs();
        seen.firstByteOfCode();
        seen.methodsAsTheyAre();
        seen.openMethods();
        seen.command();
        seen.tear();
        return seen.lines;
    }

    /** The first line in which they differ, of those that don't begin in one of these ways; or an empty text. */
    static String difference(List<String> some, List<String> others, String... but) {
        List<String> left = without(some, but);
        List<String> right = without(others, but);
        for (int k = 0; k < left.size() && k < right.size(); k++) {
            if (!left.get(k).equals(right.get(k))) {
                return left.get(k) + " / " + right.get(k);
            }
        }
        return left.size() == right.size() ? "" : "more lines";
    }

    private static List<String> without(List<String> lines, String... but) {
        List<String> all = new ArrayList<>(lines);
        for (String begin : but) {
            all.removeIf(line -> line.startsWith(begin));
        }
        return all;
    }

    /** All bytes of code but byte 0. */
    static int[] codeOf(History history) {
        Seen seen = new Seen(history);
        int[] all = new int[CodeBytes.COUNT];
        for (int first = 1; first <= 3; first++) {
            seen.readThirdOfCode(first, all);
        }
        all[CodeBytes.COUNT - 1] = seen.lastByteOfCode();
        return all;
    }

    private void begin() {
        card = new CountedCard();
        history.doneWith(card);
    }

    /** Programs need power; what reset answers is seen, too. */
    private void beginWithPower() {
        begin();
        see("reset", card.reset());
    }

    private void see(String what, long answer) {
        lines.add(what + " = " + answer);
    }

    private void answers() {
        begin();
        see("thrown0", card.thrown0());
        see("value", card.value());
        see("used", card.used());
        for (int i = 0; i <= 32; i++) {
            see("reply " + i, card.reply(i));
        }
    }

    private void objectsAsTheyAre() {
        begin();
        see("objects", card.objects());
        seeObjects();
    }

    private void objectsWithPower() {
        beginWithPower();
        see("objects with power", card.objects());
        seeObjects();
    }

    private void seeObjects() {
        int last = Math.max(4, card.objects()) + 1;
        for (int object = 1; object <= last; object++) {
            for (int what = 0; what <= 2; what++) {
                see("told " + object + " " + what, card.told(object, what));
            }
            int size = Math.max(0, card.told(object, 2));
            for (int i = 0; i <= size; i++) {
                see("cell " + object + " " + i, card.cell(object, i));
            }
        }
    }

    private void codeAsItIs() {
        int[] code = codeOf(history);
        for (int i = 1; i < code.length; i++) {
            see("code " + i, code[i]);
        }
    }

    /** Each third byte of code, put and replied by instructions that take the places of the others. */
    private void readThirdOfCode(int first, int[] into) {
        begin();
        card.reset();
        for (int from = first; from + 1 < CodeBytes.COUNT; from += 3 * 32) {
            card.code(from - 1, PUT);
            int n = 0;
            for (int i = from; n < 32 && i + 1 < CodeBytes.COUNT; i += 3) {
                n++;
                if (i + 2 < CodeBytes.COUNT) {
                    card.codes(i + 1, REPLY << 8 | (n < 32 ? PUT : END), 2);
                } else {
                    card.code(i + 1, REPLY);
                }
            }
            card.method(15, 0, from - 1, true);
            card.run(15, 3000);
            for (int k = 0; k < n; k++) {
                into[from + 3 * k] = card.reply(k);
            }
        }
    }

    /** Nothing can follow it, so it is added to a local, and told by what handles the 7 behind it. */
    private int lastByteOfCode() {
        begin();
        card.reset();
        CodeBytes.load(card, 500, HANDLE, 6, GO, 7, NOTHING, NOTHING, LOCAL, 0, END_WITH, ADD_TO_LOCAL, 0);
        card.method(15, 0, 500, true);
        card.run(15, 3000);
        return card.value() & 0xFF;
    }

    /** Nothing can stand before it, so it is told by what it does. */
    private void firstByteOfCode() {
        beginWithPower();
        CodeBytes.load(card, 1, 77, END_WITH, END, END);
        card.method(15, 0, 0, true);
        see("run of code 0", card.run(15, 3000));
        see("value of it", card.value());
        see("thrown0 of it", card.thrown0());
        see("used by it", card.used());
    }

    /** How long each runs to the end of code tells where it begins. */
    private void methodsAsTheyAre() {
        beginWithPower();
        CodeBytes.clear(card);
        CodeBytes.load(card, 509, ROOT, END_WITH);
        for (int m = 0; m <= 15; m++) {
            see("run of method " + m, card.run(m, 3000));
            see("its root", card.value());
            see("its way", card.used());
        }
    }

    private void openMethods() {
        for (int m = 0; m <= 15; m++) {
            beginWithPower();
            int other = (m + 1) % 16;
            CodeBytes.load(card, 500, CALL_OPEN, m, 0);
            card.method(other, 0, 500, false);
            see("open method " + m, card.run(other, 1));
        }
    }

    private void command() {
        beginWithPower();
        CodeBytes.load(card, 0, LOCAL, 0, COMMAND_LENGTH, GO_IF_COMPARED, 3, 12, LOCAL, 0, COMMAND, REPLY,
                ADD_TO_LOCAL, 0, 1, GO, -13, COMMAND_LENGTH, END_WITH);
        card.method(15, 0, 0, true);
        see("run for the command", card.run(15, 3000));
        see("its length", card.value());
        for (int i = 0; i < 32; i++) {
            see("its byte " + i, card.reply(i));
        }
    }

    /** Counts, in a cell, the writes that are done before it is met. */
    private void tear() {
        beginWithPower();
        CodeBytes.load(card, 0, ADD_TO_LOCAL, 0, 1, ROOT, PUT, 0, LOCAL, 0, WRITE, LOCAL, 0, PUT, 60,
                GO_IF_COMPARED, 2, -13, END);
        card.method(15, 0, 0, true);
        see("run for the tear", card.run(15, 3000));
        see("reset behind it", card.reset());
        see("writes before it", card.cell(1, 0));
    }
}
