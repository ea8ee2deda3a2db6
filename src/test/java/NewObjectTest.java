/** Promise 1: a new object. */
public final class NewObjectTest {
    public static void main(String[] args) {
        nothingHasHappened();
        nothingHappensByItself();
        objectsAreApart();
        Check.end();
    }

    private static void nothingHasHappened() {
        FieldNet x = new FieldNet();
        for (int n = 1; n <= 4; n++) {
            Check.due("state " + n, 0, x.state(n));
            Check.due("phase " + n, 0, x.phase(n));
            Check.due("objects " + n, (1000 + n) + " 0 0 0 0 0 0 0 0 0 0 0 0 0 0 0 11", Steps.objects(x, n));
        }
        for (int k = 0; k <= 3; k++) {
            Check.due("bus(-1, " + k + ")", 0, x.bus(-1, k));
        }
        Check.due("client", "0 0 0 0 -1", Steps.client(x));
        Check.due("text", -1, x.text(0));
        Check.due("reports", 0, x.report(-1));
    }

    private static void nothingHappensByItself() {
        FieldNet x = new FieldNet();
        for (int i = 1; i <= 60; i++) {
            Check.due("tick " + i, 0, x.tick());
        }
        Check.due("NOW", 60, x.bus(-1, 3));
        Check.due("pending", 0, x.bus(-1, 0));
        Check.due("reports", 0, x.report(-1));
        Check.refused("nobody is expected", x.configure(1, 2, 3));
    }

    private static void objectsAreApart() {
        FieldNet used = Steps.withNodesOn(1, 2, 3, 4);
        used.fail(1, 3);
        Check.due("NOW of another", 0, new FieldNet().bus(-1, 3));
        Check.due("state in another", 0, new FieldNet().state(1));
    }
}
