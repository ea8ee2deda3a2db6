/** Promise 19: bus. */
public final class BusTest {
    public static void main(String[] args) {
        figures();
        frames();
        wrongInputs();
        orderAfterCarrying();
        numbersNotSaidAreZero();
        Check.end();
    }

    private static void figures() {
        FieldNet x = new FieldNet();
        x.power(1, true);
        for (int i = 0; i < 23; i++) {
            x.inject(2000, 0, 0, 0);
        }
        x.fail(1, 1);
        x.fail(1, 2);
        x.disturb(2);
        x.tick();
        x.disturb(3);
        x.tick();
        Check.due("pending", 23, x.bus(-1, 0));
        Check.due("lost", 2, x.bus(-1, 1));
        Check.due("errors", 5, x.bus(-1, 2));
        Check.due("NOW", 2, x.bus(-1, 3));
    }

    private static void frames() {
        FieldNet x = new FieldNet();
        for (int i = 0; i < 24; i++) {
            x.inject(2000 - i, i, -i, 1000 * i);
        }
        for (int i = 0; i < 24; i++) {
            Check.due("ID", 2000 - i, x.bus(i, 0));
            Check.due("A", i, x.bus(i, 1));
            Check.due("B", -i, x.bus(i, 2));
            Check.due("C", 1000 * i, x.bus(i, 3));
        }
        Check.due("no more", -1, x.bus(24, 0));
    }

    private static void wrongInputs() {
        FieldNet x = new FieldNet();
        x.inject(5, 6, 7, 8);
        for (int k : new int[] {-1, 4, Integer.MIN_VALUE, Integer.MAX_VALUE}) {
            Check.due("bus(-1, " + k + ")", -1, x.bus(-1, k));
            Check.due("bus(0, " + k + ")", -1, x.bus(0, k));
        }
        for (int i : new int[] {-2, 1, 23, 24, 25, Integer.MIN_VALUE, Integer.MAX_VALUE}) {
            for (int k = -1; k <= 4; k++) {
                Check.due("bus(" + i + ", " + k + ")", -1, x.bus(i, k));
            }
        }
        x.tick();
        Check.due("carried", -1, x.bus(0, 0));
    }

    private static void orderAfterCarrying() {
        FieldNet x = new FieldNet();
        for (int i = 0; i < 6; i++) {
            x.inject(i % 2 == 0 ? 2000 : 1000, i, 0, 0);
        }
        x.tick();
        x.inject(1500, 6, 0, 0);
        Check.due("pending", "2000 0 0 0, 2000 2 0 0, 2000 4 0 0, 1500 6 0 0", Steps.pending(x));
        x.tick();
        x.inject(3, 7, 0, 0);
        Check.due("pending", "2000 4 0 0, 3 7 0 0", Steps.pending(x));
    }

    /** Frames full of other numbers have gone before, so that nothing of them may be left in those that follow. */
    private static FieldNet afterFullFrames() {
        FieldNet x = new FieldNet();
        for (int n = 1; n <= 2; n++) {
            x.power(n, true);
        }
        Steps.drain(x);
        for (int i = 0; i < 24; i++) {
            x.inject(2047, 7, 7, 7);
        }
        Steps.drain(x);
        return x;
    }

    private static void numbersNotSaidAreZero() {
        FieldNet x = afterFullFrames();
        x.power(3, true);
        x.fail(1, 9);
        x.transfer(2, 7, false, 7);
        x.sync(1);
        Steps.tickWithoutCarrying(x);
        x.sync(0);
        Check.due("beat, emergency, request to read, sync",
                "1795 0 0 0, 129 9 0 0, 1538 2 7 0, 128 0 0 0", Steps.pending(x));
        FieldNet y = afterFullFrames();
        y.inject(1537, 1, 5, 7);
        y.inject(1537, 1, 4, 1);
        Steps.drain(y);
        y.inject(0, 1, 1, 7);
        y.inject(128, 7, 7, 7);
        y.inject(1, 7, 7, 7);
        Check.due("carried", 3, y.tick());
        Check.due("sample", "385 0 0 0", Steps.pending(y));
        Check.due("answer to a write", "1 12 0", Steps.answerTo(y, 1, 1, 12, 7));
        Check.due("answer to a read of the name", "3 16 11", Steps.answerTo(y, 1, 2, 16, 7));
        Check.due("refusal", "9 7 4", Steps.answerTo(y, 1, 1, 7, 21212));
        FieldNet z = afterFullFrames();
        z.transfer(2, 16, false, 7);
        Steps.carryOne(z);
        Steps.carryOne(z);
        Check.due("request to read on", "1538 3 0 0", Steps.pending(z));
        z.expect(4, 0, 0);
        z.inject(1796, 0, 7, 7);
        Steps.ticks(z, 6);
        z.inject(1412, 2, 0, 0);
        Steps.carryOne(z);
        Check.due("command of a boot", "0 1 4 0", Steps.pending(z));
    }
}
