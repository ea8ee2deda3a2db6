/** Promise 3: identify. */
public final class IdentifyTest {
    public static void main(String[] args) {
        becomesTheIdentity();
        wrongInputs();
        onlyWhenOff();
        identityOutlastsReset();
        whatIsExpectedStays();
        Check.end();
    }

    private static void becomesTheIdentity() {
        FieldNet x = new FieldNet();
        int[] ids = {0, 9, 10, 99, 100, 999, 1000, 9999};
        int[] lengths = {8, 8, 9, 9, 10, 10, 11, 11};
        for (int i = 0; i < ids.length; i++) {
            Check.accepted("identify", x.identify(2, ids[i]));
            Check.due("identity", ids[i], x.object(2, 0));
            Check.due("length of the name", lengths[i], x.object(2, 16));
        }
        Check.accepted("the same again", x.identify(2, 9999));
        Check.due("another node", 1001, x.object(1, 0));
        Check.due("another node", 1003, x.object(3, 0));
    }

    private static void wrongInputs() {
        FieldNet x = new FieldNet();
        for (int n : Steps.NO_NODES) {
            Check.refused("node " + n, x.identify(n, 5));
        }
        for (int id : new int[] {-1, 10000, Integer.MIN_VALUE, Integer.MAX_VALUE}) {
            Check.refused("identity " + id, x.identify(1, id));
        }
        Check.due("identity stays", 1001, x.object(1, 0));
    }

    private static void onlyWhenOff() {
        FieldNet x = new FieldNet();
        x.power(1, true);
        Check.refused("prepared", x.identify(1, 5));
        Steps.run(x, 1);
        Check.refused("running", x.identify(1, 5));
        Steps.command(x, 2, 1);
        Check.refused("stopped", x.identify(1, 5));
        Check.accepted("another node, off", x.identify(2, 5));
        x.power(1, false);
        Check.accepted("off again", x.identify(1, 5));
        Check.due("identity", 5, x.object(1, 0));
    }

    private static void identityOutlastsReset() {
        FieldNet x = new FieldNet();
        x.identify(4, 42);
        x.power(4, true);
        Check.due("switched on", 42, x.object(4, 0));
        Steps.command(x, 129, 4);
        Check.due("reset", 42, x.object(4, 0));
        x.power(4, false);
        x.power(4, true);
        Check.due("switched on again", 42, x.object(4, 0));
        Check.due("read over the bus", "2 0 42", Steps.answerTo(x, 4, 2, 0, 0));
    }

    private static void whatIsExpectedStays() {
        FieldNet x = new FieldNet();
        x.expect(1, 1001, 0);
        x.identify(1, 7);
        x.power(1, true);
        Steps.ticks(x, 3);
        Check.due("another identity than expected", 5, x.phase(1));
        FieldNet y = new FieldNet();
        y.expect(1, 7, 0);
        y.identify(1, 7);
        y.power(1, true);
        Steps.ticks(y, 3);
        Check.due("as expected", 4, y.phase(1));
    }
}
