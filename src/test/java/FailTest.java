/** Promise 5: fail. */
public final class FailTest {
    public static void main(String[] args) {
        failsAndIsMended();
        otherBitStaysUntilMended();
        wrongInputs();
        inEveryState();
        Check.end();
    }

    private static void failsAndIsMended() {
        FieldNet x = Steps.withNodesOn(1, 2, 3, 4);
        for (int n = 1; n <= 4; n++) {
            Check.accepted("lowest code", x.fail(n, 1));
            Check.due("error", 2, x.object(n, 1));
            Check.accepted("highest code", x.fail(n, 31));
            Check.due("error", 2, x.object(n, 1));
            Check.accepted("mended", x.fail(n, 0));
            Check.due("error", 0, x.object(n, 1));
            int id = 128 + n;
            Check.due("emergencies", id + " 1 0 0, " + id + " 31 0 0, " + id + " 0 0 0", Steps.pending(x));
            Check.due("carried", 3, x.tick());
        }
        Check.due("reports", "1100 1200 1300 1400 5101 5131 5100 5201 5231 5200 5301 5331 5300 5401 5431 5400",
                Steps.reports(x));
        Check.due("state stays", Steps.PREPARED, x.state(1));
    }

    private static void otherBitStaysUntilMended() {
        FieldNet x = Steps.withNodesOn(1);
        Steps.write(x, 1, 3, 201);
        x.inject(1794, 5, 0, 0);
        Steps.ticks(x, 3);
        Check.due("the watched one is lost", 1, x.object(1, 1));
        x.fail(1, 7);
        Check.due("both bits", 3, x.object(1, 1));
        x.fail(1, 0);
        Check.due("none", 0, x.object(1, 1));
        x.fail(1, 7);
        x.inject(1794, 5, 0, 0);
        Steps.ticks(x, 3);
        Check.due("both bits again", 3, x.object(1, 1));
    }

    private static void wrongInputs() {
        FieldNet x = Steps.withNodesOn(1);
        for (int n : Steps.NO_NODES) {
            Check.refused("node " + n, x.fail(n, 1));
        }
        Check.refused("off", x.fail(2, 1));
        Check.refused("off, mended", x.fail(2, 0));
        for (int code : new int[] {-1, 32, Integer.MIN_VALUE, Integer.MAX_VALUE}) {
            Check.refused("code " + code, x.fail(1, code));
        }
        Check.due("error", 0, x.object(1, 1));
        Check.due("pending", "", Steps.pending(x));
    }

    private static void inEveryState() {
        FieldNet x = Steps.withNodesOn(1);
        Steps.run(x, 1);
        Check.accepted("running", x.fail(1, 2));
        Steps.drain(x);
        Check.due("runs on", Steps.RUNNING, x.state(1));
        Steps.command(x, 2, 1);
        Check.accepted("stopped", x.fail(1, 0));
        Check.due("emergency", "129 0 0 0", Steps.pending(x));
        Steps.command(x, 129, 1);
        x.fail(1, 3);
        Steps.command(x, 129, 1);
        Check.due("reset", 0, x.object(1, 1));
    }
}
