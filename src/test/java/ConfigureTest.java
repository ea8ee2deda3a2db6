/** Promise 7: configure. */
public final class ConfigureTest {
    public static void main(String[] args) {
        wrongInputs();
        atMostThree();
        writesFollowInOrder();
        writesThatMayNotBe();
        listAsItIsThen();
        listGrowsDuringTheBoot();
        everyBootWritesAgain();
        listAsItIsBehindTwoWrites();
        anyValue();
        oneTwoAndThreeWrites();
        Check.end();
    }

    private static void wrongInputs() {
        FieldNet x = new FieldNet();
        Check.refused("not expected", x.configure(1, 2, 1));
        x.expect(1, 1001, 0);
        for (int n : Steps.NO_NODES) {
            Check.refused("node " + n, x.configure(n, 2, 1));
        }
        Check.refused("another is not expected", x.configure(2, 2, 1));
        for (int k : new int[] {-1, 17, 31, Integer.MIN_VALUE, Integer.MAX_VALUE}) {
            Check.refused("object " + k, x.configure(1, k, 1));
        }
        x.power(1, true);
        Steps.ticks(x, 3);
        Check.due("the list is empty", 4, x.phase(1));
        x.expect(1, -1, 0);
        Check.refused("no longer expected", x.configure(1, 2, 1));
    }

    private static void atMostThree() {
        FieldNet x = new FieldNet();
        for (int n = 1; n <= 4; n++) {
            x.expect(n, 5, 0);
            Check.accepted("lowest object", x.configure(n, 0, 1));
            Check.accepted("highest object", x.configure(n, 16, 1));
            Check.accepted("any value", x.configure(n, 2, Integer.MIN_VALUE));
            Check.refused("a fourth", x.configure(n, 12, 1));
        }
        x.expect(1, 5, 0);
        Check.accepted("the list is empty again", x.configure(1, 12, 1));
        Check.refused("that of another is not", x.configure(2, 12, 1));
    }

    private static void writesFollowInOrder() {
        FieldNet x = new FieldNet();
        x.expect(2, 1002, 0);
        x.configure(2, 12, 1);
        x.configure(2, 12, 2);
        x.configure(2, 13, 3);
        x.power(2, true);
        Steps.ticks(x, 1);
        Check.due("phase", 1, x.phase(2));
        Steps.carryOne(x);
        Check.due("read", "1410 2 0 1002", Steps.pending(x));
        Check.due("phase", 2, x.phase(2));
        Steps.carryOne(x);
        Check.due("first write", "1538 1 12 1", Steps.pending(x));
        Check.due("phase", 3, x.phase(2));
        Check.due("client", "1 0 1002 2 12", Steps.client(x));
        Steps.carryOne(x);
        Check.due("first answer", "1410 1 12 0", Steps.pending(x));
        Steps.carryOne(x);
        Check.due("second write", "1538 1 12 2", Steps.pending(x));
        Check.due("result of a write", "1 0 0 2 12", Steps.client(x));
        Steps.carryOne(x);
        Steps.carryOne(x);
        Check.due("third write", "1538 1 13 3", Steps.pending(x));
        Steps.carryOne(x);
        Steps.carryOne(x);
        Check.due("command", "0 1 2 0", Steps.pending(x));
        Check.due("phase", 4, x.phase(2));
        Check.due("client", "0 0 0 0 -1", Steps.client(x));
        Check.due("reports", "1200 2200", Steps.reports(x));
        Check.due("not yet running", Steps.PREPARED, x.state(2));
        Check.due("command is carried", 1, x.tick());
        Check.due("running", Steps.RUNNING, x.state(2));
        Check.due("objects", "1002 0 0 0 0 0 0 0 0 0 0 0 2 3 0 0 11", Steps.objects(x, 2));
    }

    private static void writesThatMayNotBe() {
        int[] objects = {0, 1, 8, 16, 2};
        int[] values = {5, 0, 0, 0, 51};
        int[] codes = {2, 2, 2, 2, 3};
        for (int i = 0; i < objects.length; i++) {
            FieldNet x = new FieldNet();
            x.expect(1, 1001, 0);
            x.configure(1, 12, 9);
            x.configure(1, objects[i], values[i]);
            x.configure(1, 13, 9);
            x.power(1, true);
            Steps.ticks(x, 8);
            Check.due("phase", 6, x.phase(1));
            Check.due("reports", "1100 3106", Steps.reports(x));
            Check.due("code", codes[i], x.client(1));
            Check.due("the one before", 9, x.object(1, 12));
            Check.due("the one behind", 0, x.object(1, 13));
            Check.due("state", Steps.PREPARED, x.state(1));
        }
    }

    private static void listAsItIsThen() {
        FieldNet x = bootedAsFarAsTheFirstWrite();
        x.expect(1, 1001, 0);
        x.configure(1, 14, 7);
        x.configure(1, 15, 8);
        Steps.ticks(x, 5);
        Check.due("the one behind one other", "1001 0 0 0 0 0 0 0 0 0 0 0 1 0 0 8 11", Steps.objects(x, 1));
        Check.due("phase", 4, x.phase(1));
        FieldNet emptied = bootedAsFarAsTheFirstWrite();
        emptied.expect(1, -1, 0);
        Steps.ticks(emptied, 5);
        Check.due("none to follow", "1001 0 0 0 0 0 0 0 0 0 0 0 1 0 0 0 11", Steps.objects(emptied, 1));
        Check.due("phase", 4, emptied.phase(1));
        Check.due("reports", "1100 2100", Steps.reports(emptied));
    }

    private static FieldNet bootedAsFarAsTheFirstWrite() {
        FieldNet x = new FieldNet();
        x.expect(1, 1001, 0);
        x.configure(1, 12, 1);
        x.configure(1, 13, 2);
        x.power(1, true);
        Steps.ticks(x, 2);
        Check.due("answer of the first write", "1409 1 12 0", Steps.pending(x));
        return x;
    }

    private static void listGrowsDuringTheBoot() {
        FieldNet x = bootedAsFarAsTheFirstWrite();
        Check.accepted("a third", x.configure(1, 14, 3));
        Steps.ticks(x, 5);
        Check.due("all three", "1001 0 0 0 0 0 0 0 0 0 0 0 1 2 3 0 11", Steps.objects(x, 1));
        Check.accepted("during no boot", x.expect(1, 1001, 0));
        Check.due("phase", 4, x.phase(1));
    }

    private static void everyBootWritesAgain() {
        FieldNet x = bootedAsFarAsTheFirstWrite();
        Steps.ticks(x, 5);
        x.power(1, false);
        x.power(1, true);
        Check.due("objects are reset", 0, x.object(1, 13));
        Steps.ticks(x, 6);
        Check.due("and written again", "1001 0 0 0 0 0 0 0 0 0 0 0 1 2 0 0 11", Steps.objects(x, 1));
        Check.due("reports", "1100 2100 1100 2100", Steps.reports(x));
    }

    private static void listAsItIsBehindTwoWrites() {
        FieldNet x = bootedAsFarAsTheFirstWrite();
        Steps.ticks(x, 1);
        Check.due("both are written", "1 2", x.object(1, 12) + " " + x.object(1, 13));
        FieldNet y = bootedAsFarAsTheFirstWrite();
        Steps.carryOne(y);
        Check.due("the second write is under way", "1537 1 13 2", Steps.pending(y));
        y.expect(1, 1001, 0);
        y.configure(1, 14, 3);
        y.configure(1, 14, 4);
        y.configure(1, 15, 5);
        Steps.ticks(y, 5);
        Check.due("only the third of the new list", "1001 0 0 0 0 0 0 0 0 0 0 0 1 2 0 5 11", Steps.objects(y, 1));
        Check.due("phase", 4, y.phase(1));
    }

    private static void anyValue() {
        int[] values = {Integer.MIN_VALUE, Integer.MAX_VALUE, -1};
        FieldNet x = new FieldNet();
        x.expect(1, 1001, 0);
        for (int i = 0; i < 3; i++) {
            Check.accepted("configure", x.configure(1, 12 + i, values[i]));
        }
        x.power(1, true);
        Steps.ticks(x, 6);
        for (int i = 0; i < 3; i++) {
            Check.due("written", values[i], x.object(1, 12 + i));
        }
    }

    private static void oneTwoAndThreeWrites() {
        for (int writes = 0; writes <= 3; writes++) {
            FieldNet x = new FieldNet();
            x.expect(4, 1004, 0);
            for (int i = 0; i < writes; i++) {
                Check.accepted("configure", x.configure(4, 12 + i, 7));
            }
            x.power(4, true);
            Steps.ticks(x, 1);
            int carried = 0;
            for (int i = 0; i < 4; i++) {
                carried += x.tick();
            }
            Check.due("read and writes with their answers, and the command", 3 + 2 * writes, carried);
            Check.due("phase", 4, x.phase(4));
            for (int k = 12; k <= 15; k++) {
                Check.due("object " + k, k < 12 + writes ? 7 : 0, x.object(4, k));
            }
        }
    }
}
