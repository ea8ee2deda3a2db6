/** What RESET does, clause by clause, whether a node is switched on or a COMMAND resets it. */
public final class ResetTest {
    public static void main(String[] args) {
        for (boolean byPower : new boolean[] {true, false}) {
            allObjectsAreZeroButTheIdentity(byPower);
            nodeIsPrepared(byPower);
            noSampleWasSent(byPower);
            noneIsHeldBack(byPower);
            zeroSyncsAreCounted(byPower);
            nothingWasHeard(byPower);
            noTextIsReadOut(byPower);
            latestBeatIsNow(byPower);
            beatWithZeroIsPut(byPower);
        }
        commandLeavesPendingFrames();
        commandResetsOnlyNodesThatAreOn();
        commandResetsTheNodesThatItNames();
        Check.end();
    }

    private static void reset(FieldNet x, int n, boolean byPower) {
        if (byPower) {
            Check.accepted("off", x.power(n, false));
            Check.accepted("on", x.power(n, true));
            Steps.drain(x);
        } else {
            Steps.command(x, 129, n);
        }
    }

    private static void allObjectsAreZeroButTheIdentity(boolean byPower) {
        FieldNet x = new FieldNet();
        x.identify(2, 4321);
        x.power(2, true);
        Steps.drain(x);
        int[] values = {50, 450, 4, 20, 1111, 41515, 0, 0, 0, 0, -1, -2, -3, -4};
        for (int k : new int[] {2, 3, 4, 5, 6, 7, 12, 13, 14, 15}) {
            Steps.write(x, 2, k, values[k - 2]);
        }
        for (int i = 8; i <= 11; i++) {
            x.input(2, i, i);
        }
        x.fail(2, 31);
        Steps.drain(x);
        Check.due("before", "4321 2 50 450 4 20 1111 41515 8 9 10 11 -1 -2 -3 -4 11", Steps.objects(x, 2));
        reset(x, 2, byPower);
        Check.due("reset", "4321 0 0 0 0 0 0 0 0 0 0 0 0 0 0 0 11", Steps.objects(x, 2));
    }

    private static void nodeIsPrepared(boolean byPower) {
        for (int command : new int[] {1, 2, 128}) {
            FieldNet x = Steps.withNodesOn(3);
            Steps.command(x, command, 3);
            reset(x, 3, byPower);
            Check.due("state", Steps.PREPARED, x.state(3));
        }
    }

    private static FieldNet sender() {
        FieldNet x = Steps.withNodesOn(1);
        makeSender(x);
        return x;
    }

    private static void makeSender(FieldNet x) {
        Steps.write(x, 1, 5, 20);
        Steps.write(x, 1, 6, 808);
        Steps.run(x, 1);
    }

    private static void noSampleWasSent(boolean byPower) {
        FieldNet x = sender();
        x.input(1, 8, 1);
        Steps.drain(x);
        reset(x, 1, byPower);
        makeSender(x);
        x.input(1, 8, 2);
        Check.due("no pause holds it back", "385 0 2 2", Steps.pending(x));
    }

    private static void noneIsHeldBack(boolean byPower) {
        FieldNet x = sender();
        x.input(1, 8, 1);
        x.input(1, 8, 2);
        Steps.drain(x);
        reset(x, 1, byPower);
        makeSender(x);
        for (int i = 0; i < 30; i++) {
            Check.due("nothing is sent", 0, x.tick());
        }
    }

    private static void zeroSyncsAreCounted(boolean byPower) {
        FieldNet x = Steps.withNodesOn(1);
        Steps.write(x, 1, 4, 2);
        Steps.run(x, 1);
        x.inject(128, 0, 0, 0);
        Steps.drain(x);
        reset(x, 1, byPower);
        Steps.write(x, 1, 4, 2);
        Steps.run(x, 1);
        x.inject(128, 0, 0, 0);
        Check.due("the first sync", 1, x.tick());
        x.inject(128, 0, 0, 0);
        Check.due("the second, and a sample", 2, x.tick());
    }

    private static void nothingWasHeard(boolean byPower) {
        FieldNet x = Steps.withNodesOn(1);
        Steps.write(x, 1, 3, 205);
        x.inject(1794, 5, 0, 0);
        Steps.drain(x);
        reset(x, 1, byPower);
        Steps.ticks(x, 10);
        Check.due("it watches no node", 0, x.object(1, 1));
        Steps.write(x, 1, 3, 201);
        Steps.ticks(x, 10);
        Check.due("it watches, and has heard nothing", 0, x.object(1, 1));
    }

    private static void noTextIsReadOut(boolean byPower) {
        FieldNet x = Steps.withNodesOn(1);
        Steps.answerTo(x, 1, 2, 16, 0);
        Steps.answerTo(x, 1, 3, 0, 0);
        reset(x, 1, byPower);
        Check.due("toggle 1", "9 16 5", Steps.answerTo(x, 1, 3, 1, 0));
        Check.due("begun anew", "3 16 11", Steps.answerTo(x, 1, 2, 16, 0));
        reset(x, 1, byPower);
        Check.due("toggle 0", "9 16 5", Steps.answerTo(x, 1, 3, 0, 0));
    }

    private static void latestBeatIsNow(boolean byPower) {
        FieldNet x = Steps.withNodesOn(1);
        Steps.write(x, 1, 2, 3);
        Steps.drain(x);
        reset(x, 1, byPower);
        for (int i = 0; i < 60; i++) {
            Check.due("no period, no beat", 0, x.tick());
        }
        x.inject(1537, 1, 2, 3);
        Check.due("write and answer", 2, x.tick());
        Check.due("1 above", 0, x.tick());
        Check.due("2 above", 0, x.tick());
        Check.due("3 above", 1, x.tick());
    }

    private static void beatWithZeroIsPut(boolean byPower) {
        for (int n = 1; n <= 4; n++) {
            FieldNet x = Steps.withNodesOn(n);
            Steps.run(x, n);
            if (byPower) {
                x.power(n, false);
                x.power(n, true);
            } else {
                x.inject(0, 129, n, 0);
                Steps.carryOne(x);
            }
            Check.due("beat", (1792 + n) + " 0 0 0", Steps.pending(x));
        }
    }

    private static void commandLeavesPendingFrames() {
        FieldNet x = Steps.withNodesOn(1);
        x.fail(1, 9);
        x.fail(1, 0);
        x.inject(0, 129, 1, 0);
        Steps.carryOne(x);
        Check.due("its emergencies stay, unlike when it is switched off",
                "129 9 0 0, 129 0 0 0, 1793 0 0 0", Steps.pending(x));
    }

    private static void commandResetsOnlyNodesThatAreOn() {
        FieldNet x = Steps.withNodesOn(1, 2, 3, 4);
        Steps.write(x, 2, 12, 7);
        x.power(2, false);
        x.inject(0, 129, 0, 0);
        Steps.carryOne(x);
        Check.due("beats", "1793 0 0 0, 1795 0 0 0, 1796 0 0 0", Steps.pending(x));
        Check.due("state", Steps.OFF, x.state(2));
        Check.due("its objects stay", 7, x.object(2, 12));
    }

    private static void commandResetsTheNodesThatItNames() {
        for (int n = 0; n <= 5; n++) {
            FieldNet x = Steps.withNodesOn(1, 2, 3, 4);
            Steps.command(x, 2, 0);
            Steps.command(x, 129, n);
            for (int m = 1; m <= 4; m++) {
                boolean named = n == 0 || n == m;
                Check.due("to " + n + ", node " + m, named ? Steps.PREPARED : Steps.STOPPED, x.state(m));
            }
        }
    }
}
