/** Promise 14: state, and the commands that change it. */
public final class StateTest {
    private static final int[] COMMANDS = {1, 2, 128};

    public static void main(String[] args) {
        noSuchNode();
        commands();
        commandsToOneOrAll();
        otherCommands();
        commandsChangeNothingElse();
        resetByCommand();
        commandsLeaveTheBeat();
        commandsLeaveWhatWasHeard();
        commandsLeaveTheSyncs();
        commandsLeaveTheReadOut();
        commandsLeaveWhatIsHeldBack();
        Check.end();
    }

    private static void noSuchNode() {
        FieldNet x = Steps.withNodesOn(1, 2, 3, 4);
        for (int n : Steps.NO_NODES) {
            Check.due("state(" + n + ")", -1, x.state(n));
        }
    }

    private static void commands() {
        int[] codes = {1, 2, 128, 129};
        int[] states = {Steps.RUNNING, Steps.STOPPED, Steps.PREPARED, Steps.PREPARED};
        for (int first = 0; first < 4; first++) {
            for (int second = 0; second < 4; second++) {
                FieldNet x = Steps.withNodesOn(3);
                Steps.command(x, codes[first], 3);
                Check.due("first", states[first], x.state(3));
                Steps.command(x, codes[second], 3);
                Check.due("second", states[second], x.state(3));
            }
        }
    }

    private static void commandsToOneOrAll() {
        for (int n = 1; n <= 4; n++) {
            FieldNet x = Steps.withNodesOn(1, 2, 3, 4);
            Steps.command(x, 1, n);
            for (int m = 1; m <= 4; m++) {
                Check.due("to one", m == n ? Steps.RUNNING : Steps.PREPARED, x.state(m));
            }
        }
        FieldNet x = Steps.withNodesOn(1, 2, 4);
        Steps.command(x, 2, 0);
        for (int m = 1; m <= 4; m++) {
            Check.due("to all", m == 3 ? Steps.OFF : Steps.STOPPED, x.state(m));
        }
        Steps.command(x, 1, 5);
        Steps.command(x, 1, -1);
        Check.due("to nobody", Steps.STOPPED, x.state(1));
    }

    private static void otherCommands() {
        FieldNet x = Steps.withNodesOn(1);
        Steps.run(x, 1);
        String before = Steps.objects(x, 1);
        for (int a : new int[] {0, 3, 4, 5, 127, 130, -1, Integer.MIN_VALUE, Integer.MAX_VALUE}) {
            Steps.command(x, a, 1);
            Check.due("command " + a, Steps.RUNNING, x.state(1));
        }
        Check.due("objects", before, Steps.objects(x, 1));
    }

    private static void commandsChangeNothingElse() {
        FieldNet x = Steps.withNodesOn(1);
        Steps.write(x, 1, 12, 5);
        x.input(1, 8, 6);
        x.fail(1, 1);
        Steps.drain(x);
        String before = Steps.objects(x, 1);
        for (int a : new int[] {1, 2, 128}) {
            x.inject(0, a, 1, 99);
            Check.due("only the command", 1, x.tick());
            Check.due("nothing is put", "", Steps.pending(x));
            Check.due("objects", before, Steps.objects(x, 1));
        }
    }

    private static void resetByCommand() {
        FieldNet x = Steps.withNodesOn(1);
        Steps.write(x, 1, 12, 5);
        Steps.write(x, 1, 6, 808);
        x.input(1, 8, 6);
        x.fail(1, 1);
        Steps.run(x, 1);
        x.inject(0, 129, 1, 0);
        Steps.carryOne(x);
        Check.due("beat", "1793 0 0 0", Steps.pending(x));
        Check.due("objects", "1001 0 0 0 0 0 0 0 0 0 0 0 0 0 0 0 11", Steps.objects(x, 1));
        Check.due("state", Steps.PREPARED, x.state(1));
    }

    private static void commandsLeaveTheBeat() {
        for (int a : COMMANDS) {
            FieldNet x = Steps.withNodesOn(1);
            x.inject(1537, 1, 2, 4);
            Check.due("write and answer", 2, x.tick());
            x.inject(0, a, 1, 0);
            Check.due("1 above: the command", 1, x.tick());
            Check.due("2 above", 0, x.tick());
            Check.due("3 above", 0, x.tick());
            Check.due("4 above: the beat", 1, x.tick());
        }
    }

    private static void commandsLeaveWhatWasHeard() {
        for (int a : COMMANDS) {
            FieldNet x = Steps.withNodesOn(1);
            Steps.write(x, 1, 3, 204);
            x.inject(1794, 5, 0, 0);
            Check.due("heard", 1, x.tick());
            x.inject(0, a, 1, 0);
            Check.due("1 above: the command", 1, x.tick());
            Steps.ticks(x, 2);
            Check.due("3 above", 0, x.object(1, 1));
            Steps.ticks(x, 1);
            Check.due("4 above", 1, x.object(1, 1));
        }
    }

    private static void commandsLeaveTheSyncs() {
        for (int a : COMMANDS) {
            FieldNet x = Steps.withNodesOn(1);
            Steps.write(x, 1, 4, 2);
            Steps.run(x, 1);
            x.inject(128, 0, 0, 0);
            Check.due("first", 1, x.tick());
            Steps.command(x, a, 1);
            Steps.run(x, 1);
            x.inject(128, 0, 0, 0);
            Check.due("second, and a sample", 2, x.tick());
        }
    }

    private static void commandsLeaveTheReadOut() {
        for (int a : COMMANDS) {
            FieldNet x = Steps.withNodesOn(1);
            Steps.answerTo(x, 1, 2, 16, 0);
            Steps.answerTo(x, 1, 3, 0, 0);
            Steps.command(x, a, 1);
            Steps.run(x, 1);
            Check.due("goes on", "4 9", Steps.answerTo(x, 1, 3, 1, 0).substring(0, 3));
        }
    }

    private static void commandsLeaveWhatIsHeldBack() {
        for (int a : COMMANDS) {
            FieldNet x = Steps.withNodesOn(1);
            Steps.write(x, 1, 6, 808);
            Steps.write(x, 1, 5, 9);
            Steps.run(x, 1);
            x.input(1, 8, 1);
            x.input(1, 8, 2);
            Steps.drain(x);
            Steps.command(x, a, 1);
            Steps.run(x, 1);
            for (int i = 4; i <= 8; i++) {
                Check.due(i + " above", 0, x.tick());
            }
            Check.due("9 above: the held back sample", 1, x.tick());
        }
    }
}
