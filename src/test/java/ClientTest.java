/** Promise 16: client. */
public final class ClientTest {
    public static void main(String[] args) {
        otherNumbers();
        busyAndIdle();
        everyNode();
        Check.end();
    }

    private static void otherNumbers() {
        FieldNet x = new FieldNet();
        x.transfer(1, 3, false, 0);
        for (int k : new int[] {-1, 5, Integer.MIN_VALUE, Integer.MAX_VALUE}) {
            Check.due("client(" + k + ")", -1, x.client(k));
        }
    }

    private static void busyAndIdle() {
        FieldNet x = Steps.withNodesOn(4);
        Check.due("idle", "0 0 0 0 -1", Steps.client(x));
        Steps.write(x, 4, 13, -6);
        x.transfer(4, 13, false, 0);
        Check.due("busy", "1 0 0 4 13", Steps.client(x));
        Steps.ticks(x, 1);
        Check.due("idle", "0 0 -6 0 -1", Steps.client(x));
        x.transfer(4, 13, true, 8);
        Check.due("busy", "1 0 -6 4 13", Steps.client(x));
        Steps.ticks(x, 1);
        Check.due("idle", "0 0 0 0 -1", Steps.client(x));
        x.transfer(4, 1, true, 8);
        Steps.ticks(x, 1);
        Check.due("refused", "0 2 0 0 -1", Steps.client(x));
    }

    private static void everyNode() {
        FieldNet x = Steps.withNodesOn(1, 2, 3, 4);
        for (int n = 1; n <= 4; n++) {
            x.transfer(n, 0, false, 0);
            Check.due("node", n, x.client(3));
            Steps.ticks(x, 1);
            Check.due("result", 1000 + n, x.client(2));
        }
    }
}
