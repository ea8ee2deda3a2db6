import java.util.function.Predicate;

/**
 * "A refused call changes nothing": each reason of each method to refuse a call, alone, next to the call that is not
 * refused. Two objects come to the same scene, one of them gets the refused call, and both go on in the same way.
 */
public final class RefusalTest {
    private static final int LOW = Integer.MIN_VALUE;
    private static final int HIGH = Integer.MAX_VALUE;

    public static void main(String[] args) {
        powerOfNoNode();
        powerOfANodeThatIsSoAlready();
        identifyNoNode();
        identifyANodeThatIsOn();
        identifyOutOfRange();
        inputOfNoNode();
        inputOfANodeThatIsOff();
        inputThatThereIsNot();
        failOfNoNode();
        failOfANodeThatIsOff();
        failOutOfRange();
        expectNoNode();
        expectAnIdentityOutOfRange();
        expectATimeOutOfRange();
        configureNoNode();
        configureANodeThatIsNotExpected();
        configureAnObjectThatThereIsNot();
        configureAFourth();
        transferWithNoNode();
        transferOfAnObjectOutOfRange();
        transferWhenBusy();
        syncOutOfRange();
        injectOutOfRange();
        injectIntoAFullBus();
        disturbOutOfRange();
        questionsChangeNothing();
        Check.end();
    }

    /**
     * Node 1 runs, beats, watches node 2, has sent a sample and holds back another; node 2 is prepared and reads out
     * its name; node 3 is stopped and waits for its boot, with two writes to come; node 4 is off. The client is idle,
     * a sync period is set, the next two slots with a frame are disturbed, and some frames are pending.
     */
    private static FieldNet scene() {
        FieldNet x = new FieldNet();
        x.power(1, true);
        x.power(2, true);
        x.power(3, true);
        x.tick();
        int[][] writes = {{2, 7}, {3, 209}, {5, 9}, {6, 809}, {12, 5}};
        for (int[] write : writes) {
            x.inject(1537, 1, write[0], write[1]);
            x.tick();
        }
        x.inject(0, 1, 1, 0);
        x.inject(0, 2, 3, 0);
        x.inject(1538, 2, 16, 0);
        x.tick();
        x.expect(1, 1001, 6);
        x.expect(3, 1003, 4);
        x.configure(3, 13, 1);
        x.configure(3, 14, 2);
        x.inject(1793, 5, 0, 0);
        x.inject(1794, 127, 0, 0);
        x.inject(1795, 0, 0, 0);
        x.tick();
        x.tick();
        x.input(1, 8, 3);
        x.input(1, 9, 4);
        x.fail(2, 6);
        x.sync(3);
        x.disturb(2);
        return x;
    }

    /** Calls that let all that is hidden come out. */
    private static String future(FieldNet x) {
        StringBuilder all = new StringBuilder();
        for (int i = 0; i < 8; i++) {
            all.append(x.tick()).append(' ');
        }
        x.power(4, true);
        x.inject(0, 128, 3, 0);
        x.inject(1795, 0, 0, 0);
        x.inject(1538, 3, 0, 0);
        x.input(1, 8, 9);
        for (int i = 0; i < 16; i++) {
            all.append(x.tick()).append(' ');
        }
        return all.append('\n').append(Steps.picture(x)).toString();
    }

    /** The call is refused at the scene that the other calls lead to, and leaves no trace. */
    private static void refused(String what, Predicate<FieldNet> call, Calls... before) {
        FieldNet with = scene();
        FieldNet without = scene();
        for (Calls calls : before) {
            calls.on(with);
            calls.on(without);
        }
        Check.refused(what, call.test(with));
        Check.due(what + ": nothing has changed", Steps.picture(without), Steps.picture(with));
        Check.due(what + ": nor does anything later", future(without), future(with));
    }

    /** The same call with a number that is just right. */
    private static void accepted(String what, Predicate<FieldNet> call, Calls... before) {
        FieldNet x = scene();
        for (Calls calls : before) {
            calls.on(x);
        }
        Check.accepted(what, call.test(x));
    }

    private interface Calls {
        void on(FieldNet x);
    }

    private static void powerOfNoNode() {
        for (int n : Steps.NO_NODES) {
            refused("power(" + n + ", true)", x -> x.power(n, true));
            refused("power(" + n + ", false)", x -> x.power(n, false));
        }
        accepted("power(4, true)", x -> x.power(4, true));
        accepted("power(1, false)", x -> x.power(1, false));
    }

    private static void powerOfANodeThatIsSoAlready() {
        refused("running", x -> x.power(1, true));
        refused("prepared", x -> x.power(2, true));
        refused("stopped", x -> x.power(3, true));
        refused("off", x -> x.power(4, false));
        accepted("prepared", x -> x.power(2, false));
        accepted("stopped", x -> x.power(3, false));
    }

    private static void identifyNoNode() {
        for (int n : Steps.NO_NODES) {
            refused("identify(" + n + ", 7)", x -> x.identify(n, 7));
        }
        accepted("identify(4, 7)", x -> x.identify(4, 7));
    }

    private static void identifyANodeThatIsOn() {
        for (int n = 1; n <= 3; n++) {
            int node = n;
            refused("identify(" + n + ", 7)", x -> x.identify(node, 7));
            refused("with the identity that it has", x -> x.identify(node, 1000 + node));
            accepted("when it is off", x -> x.identify(node, 7), x -> x.power(node, false));
        }
    }

    private static void identifyOutOfRange() {
        for (int id : new int[] {LOW, -1, 10000, HIGH}) {
            refused("identify(4, " + id + ")", x -> x.identify(4, id));
        }
        accepted("identify(4, 0)", x -> x.identify(4, 0));
        accepted("identify(4, 9999)", x -> x.identify(4, 9999));
    }

    private static void inputOfNoNode() {
        for (int n : Steps.NO_NODES) {
            refused("input(" + n + ", 8, 1)", x -> x.input(n, 8, 1));
        }
        accepted("input(3, 8, 1)", x -> x.input(3, 8, 1));
    }

    private static void inputOfANodeThatIsOff() {
        for (int i = 8; i <= 11; i++) {
            int input = i;
            refused("input(4, " + i + ", 1)", x -> x.input(4, input, 1));
            refused("input(4, " + i + ", 0)", x -> x.input(4, input, 0));
            refused("switched off", x -> x.input(1, input, 7), x -> x.power(1, false));
        }
    }

    private static void inputThatThereIsNot() {
        for (int i : new int[] {LOW, -1, 0, 7, 12, 15, 16, HIGH}) {
            for (int n = 1; n <= 3; n++) {
                int node = n;
                refused("input(" + n + ", " + i + ", 5)", x -> x.input(node, i, 5));
            }
        }
        accepted("input(1, 8, 5)", x -> x.input(1, 8, 5));
        accepted("input(1, 11, 5)", x -> x.input(1, 11, 5));
    }

    private static void failOfNoNode() {
        for (int n : Steps.NO_NODES) {
            refused("fail(" + n + ", 1)", x -> x.fail(n, 1));
        }
    }

    private static void failOfANodeThatIsOff() {
        refused("fail(4, 0)", x -> x.fail(4, 0));
        refused("fail(4, 1)", x -> x.fail(4, 1));
        refused("fail(4, 31)", x -> x.fail(4, 31));
        accepted("fail(4, 31)", x -> x.fail(4, 31), x -> x.power(4, true));
    }

    private static void failOutOfRange() {
        for (int code : new int[] {LOW, -1, 32, 63, 64, HIGH}) {
            refused("fail(1, " + code + ")", x -> x.fail(1, code));
            refused("fail(2, " + code + ")", x -> x.fail(2, code));
        }
        accepted("fail(1, 0)", x -> x.fail(1, 0));
        accepted("fail(1, 31)", x -> x.fail(1, 31));
    }

    private static void expectNoNode() {
        for (int n : Steps.NO_NODES) {
            refused("expect(" + n + ", 5, 5)", x -> x.expect(n, 5, 5));
            refused("expect(" + n + ", -1, 0)", x -> x.expect(n, -1, 0));
        }
    }

    private static void expectAnIdentityOutOfRange() {
        for (int id : new int[] {LOW, -2, 10000, HIGH}) {
            refused("expect(3, " + id + ", 4)", x -> x.expect(3, id, 4));
            refused("expect(2, " + id + ", 1)", x -> x.expect(2, id, 1));
        }
        accepted("expect(3, -1, 4)", x -> x.expect(3, -1, 4));
        accepted("expect(3, 0, 4)", x -> x.expect(3, 0, 4));
        accepted("expect(3, 9999, 4)", x -> x.expect(3, 9999, 4));
    }

    private static void expectATimeOutOfRange() {
        for (int time : new int[] {LOW, -1, 51, HIGH}) {
            refused("expect(3, 5, " + time + ")", x -> x.expect(3, 5, time));
            refused("expect(3, -1, " + time + ")", x -> x.expect(3, -1, time));
        }
        accepted("expect(3, 5, 0)", x -> x.expect(3, 5, 0));
        accepted("expect(3, 5, 50)", x -> x.expect(3, 5, 50));
    }

    private static void configureNoNode() {
        for (int n : Steps.NO_NODES) {
            refused("configure(" + n + ", 12, 5)", x -> x.configure(n, 12, 5));
        }
    }

    private static void configureANodeThatIsNotExpected() {
        refused("never expected", x -> x.configure(2, 12, 5));
        refused("never expected, and off", x -> x.configure(4, 12, 5));
        refused("no longer expected", x -> x.configure(1, 12, 5), x -> x.expect(1, -1, 6));
        accepted("expected with identity 0", x -> x.configure(2, 12, 5), x -> x.expect(2, 0, 0));
    }

    private static void configureAnObjectThatThereIsNot() {
        for (int k : new int[] {LOW, -1, 17, 31, HIGH}) {
            refused("configure(3, " + k + ", 5)", x -> x.configure(3, k, 5));
        }
        accepted("configure(3, 0, 5)", x -> x.configure(3, 0, 5));
        accepted("configure(3, 16, 5)", x -> x.configure(3, 16, 5));
    }

    private static void configureAFourth() {
        accepted("a third", x -> x.configure(3, 15, 5));
        refused("a fourth", x -> x.configure(3, 15, 5), x -> x.configure(3, 15, 3));
        accepted("for another", x -> x.configure(1, 15, 5), x -> x.configure(3, 15, 3));
    }

    private static void transferWithNoNode() {
        for (int n : Steps.NO_NODES) {
            refused("read of " + n, x -> x.transfer(n, 0, false, 0));
            refused("write to " + n, x -> x.transfer(n, 12, true, 1));
        }
        accepted("with a node", x -> x.transfer(4, 12, true, 1));
    }

    private static void transferOfAnObjectOutOfRange() {
        for (int k : new int[] {LOW, -1, 32, HIGH}) {
            refused("read of object " + k, x -> x.transfer(2, k, false, 0));
            refused("write to object " + k, x -> x.transfer(2, k, true, 1));
        }
        accepted("object 0", x -> x.transfer(2, 0, false, 0));
        accepted("object 31", x -> x.transfer(2, 31, true, 0));
    }

    private static void transferWhenBusy() {
        Calls toBusy = x -> x.transfer(2, 16, false, 0);
        for (int n = 1; n <= 4; n++) {
            int node = n;
            refused("read while it reads", x -> x.transfer(node, 16, false, 0), toBusy);
            refused("write while it reads", x -> x.transfer(node, 12, true, 7), toBusy);
            refused("while a boot goes on", x -> x.transfer(node, 12, true, 7), x -> x.tick());
        }
        accepted("while a boot waits", x -> x.transfer(3, 12, true, 7));
    }

    private static void syncOutOfRange() {
        for (int period : new int[] {LOW, -1, 21, HIGH}) {
            refused("sync(" + period + ")", x -> x.sync(period));
        }
        accepted("sync(0)", x -> x.sync(0));
        accepted("sync(20)", x -> x.sync(20));
    }

    private static void injectOutOfRange() {
        for (int id : new int[] {LOW, -1, 2048, HIGH}) {
            refused("inject(" + id + ", ...)", x -> x.inject(id, 129, 0, 0));
        }
        accepted("inject(0, ...)", x -> x.inject(0, 129, 0, 0));
        accepted("inject(2047, ...)", x -> x.inject(2047, 129, 0, 0));
    }

    private static void injectIntoAFullBus() {
        for (int id : new int[] {0, 128, 1537, 2047}) {
            refused("with 24 pending", x -> x.inject(id, 129, 0, 0), x -> Steps.fillTo(x, 24));
            accepted("with 23 pending", x -> x.inject(id, 129, 0, 0), x -> Steps.fillTo(x, 23));
        }
    }

    private static void disturbOutOfRange() {
        for (int k : new int[] {LOW, -1, 10, HIGH}) {
            refused("disturb(" + k + ")", x -> x.disturb(k));
        }
        accepted("disturb(0)", x -> x.disturb(0));
        accepted("disturb(9)", x -> x.disturb(9));
    }

    private static void questionsChangeNothing() {
        for (int v : new int[] {LOW, -3, -2, -1, 0, 1, 4, 5, 16, 17, 24, 80, HIGH}) {
            refused("questions with " + v, x -> {
                x.object(v, v);
                x.object(1, v);
                x.object(v, 1);
                x.state(v);
                x.phase(v);
                x.client(v);
                x.text(v);
                x.report(v);
                x.bus(v, v);
                x.bus(-1, v);
                x.bus(v, 0);
                return false;
            });
        }
    }
}
