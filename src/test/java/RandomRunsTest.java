/**
 * Code as it comes, from a written seed: no call throws, answers are of those that the document
 * names, equal calls have equal answers, and no code of one owner changes what another one owns.
 */
final class RandomRunsTest extends CardChecks {
    private static final int CARDS = 1000;
    private static final int CALLS = 36;

    private CountedCard twin;
    private long seed = 20261119;

    public static void main(String[] args) {
        RandomRunsTest test = new RandomRunsTest();
        for (int k = 0; k < CARDS; k++) {
            test.anyCalls();
            test.wall(1 + k % 3);
        }
        test.end();
    }

    private int random(int bound) {
        seed = seed * 6364136223846793005L + 1442695040888963407L;
        return (int) ((seed >>> 33) % bound);
    }

    private void newCards() {
        newCard();
        twin = new CountedCard();
        for (int i = 0; i < 512; i += 8) {
            long eight = 0;
            for (int k = 0; k < 8; k++) {
                int b = random(3) == 0 ? PUT : random(10) == 0 ? random(256) : random(46);
                eight = eight << 8 | b;
            }
            card.codes(i, eight, 8);
            twin.codes(i, eight, 8);
        }
    }

    private void anyCalls() {
        newCards();
        for (int k = 0; k < CALLS; k++) {
            anyCall(random(8), random(600) - 40, random(300) - 20, random(20) - 2);
            due("thrown0() of a twin", twin.thrown0(), card.thrown0());
            due("value() of a twin", twin.value(), card.value());
            due("used() of a twin", twin.used(), card.used());
            due("objects() of a twin", twin.objects(), card.objects());
            due("a range", card.objects() == BAD || card.objects() >= 4 && card.objects() <= 40 ? 1 : 0, 1);
            int object = random(45) - 2;
            due("cell() of a twin", twin.cell(object, k % 17), card.cell(object, k % 17));
            due("told() of a twin", twin.told(object, k % 3), card.told(object, k % 3));
            due("reply() of a twin", twin.reply(k % 34), card.reply(k % 34));
        }
    }

    private void anyCall(int which, int i, int v, int m) {
        switch (which) {
            case 0:
                due("code() of a twin", twin.code(i, v), card.code(i, v));
                break;
            case 1:
                due("codes() of a twin", twin.codes(i, seed, m), card.codes(i, seed, m));
                break;
            case 2:
                due("method() of a twin", twin.method(m, v % 5, i, true), card.method(m, v % 5, i, true));
                break;
            case 3:
                due("type() of a twin", twin.type(v), card.type(v));
                break;
            case 4:
                due("tear() of a twin", twin.tear(m), card.tear(m));
                due("reset() of a twin", twin.reset(), card.reset());
                break;
            default:
                int answer = card.run(m, i * 6);
                due("run() of a twin", twin.run(m, i * 6), answer);
                due("an answer of run", isAnswer(answer) ? 1 : 0, 1);
                if (answer != BAD) {
                    due("fuel used", card.used() >= 0 && card.used() <= i * 6 ? 1 : 0, 1);
                }
                break;
        }
    }

    private static boolean isAnswer(int answer) {
        return answer == DONE || answer == NO_FUEL || answer == THROWN || answer == OFF || answer == BAD;
    }

    /** Each root has a mark in each cell; all methods are one owner's. */
    private void wall(int owner) {
        newCards();
        for (int object = 1; object <= 4; object++) {
            for (int i = 0; i < 8; i++) {
                run(PUT, object, PUT, i, PUT, object * 8 + i, WRITE, END);
            }
        }
        for (int m = 0; m < 16; m++) {
            card.method(m, owner, random(512), true);
        }
        for (int m = 0; m < 16; m++) {
            card.run(m, 3000);
        }
        for (int object = 1; object <= 4; object++) {
            for (int i = 0; i < 8 && object != owner + 1; i++) {
                due("a cell of another owner", card.cell(object, i), object * 8 + i);
            }
        }
        for (int object = 5; object <= card.objects(); object++) {
            due("a new object's owner", card.told(object, 0), owner);
        }
    }
}
