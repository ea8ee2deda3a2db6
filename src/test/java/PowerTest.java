/** Promise 2: power, and the reset that comes with it. */
public final class PowerTest {
    public static void main(String[] args) {
        onAndOff();
        wrongNodes();
        offTakesItsFramesAway();
        offLeavesTheFramesBefore();
        offKeepsObjectsAndOnResetsThem();
        onWithAFullBus();
        offMeansDeaf();
        offLeavesTheMasterAsItIs();
        inEveryState();
        Check.end();
    }

    private static void onAndOff() {
        for (int n = 1; n <= 4; n++) {
            FieldNet x = new FieldNet();
            Check.refused("off already", x.power(n, false));
            Check.accepted("on", x.power(n, true));
            Check.due("state", Steps.PREPARED, x.state(n));
            Check.due("beat", (1792 + n) + " 0 0 0", Steps.pending(x));
            Check.refused("on already", x.power(n, true));
            Check.due("no second beat", 1, x.bus(-1, 0));
            Check.accepted("off", x.power(n, false));
            Check.due("state", Steps.OFF, x.state(n));
            Check.due("beat is gone", "", Steps.pending(x));
            Check.due("not lost", 0, x.bus(-1, 1));
            Check.refused("off already", x.power(n, false));
        }
    }

    private static void wrongNodes() {
        FieldNet x = new FieldNet();
        for (int n : Steps.NO_NODES) {
            Check.refused("power on of " + n, x.power(n, true));
            Check.refused("power off of " + n, x.power(n, false));
        }
        Check.due("pending", 0, x.bus(-1, 0));
    }

    private static void offTakesItsFramesAway() {
        FieldNet x = new FieldNet();
        x.power(1, true);
        x.power(2, true);
        x.inject(1793, 5, 6, 7);
        x.fail(1, 4);
        x.fail(2, 5);
        x.transfer(1, 2, true, 9);
        x.fail(1, 0);
        x.fail(2, 0);
        Check.accepted("off", x.power(1, false));
        Check.due("what others put stays in its order",
                "1794 0 0 0, 1793 5 6 7, 130 5 0 0, 1537 1 2 9, 130 0 0 0", Steps.pending(x));
        Check.accepted("off", x.power(2, false));
        Check.due("again", "1793 5 6 7, 1537 1 2 9", Steps.pending(x));
        for (int i = 0; i < 22; i++) {
            Check.accepted("room for 22 others", x.inject(2000 + i, i, 0, 0));
        }
        Check.refused("and no more", x.inject(2000, 0, 0, 0));
        Check.due("the first", 1793, x.bus(0, 0));
        Check.due("the second", 1537, x.bus(1, 0));
        for (int i = 0; i < 22; i++) {
            Check.due("each is a frame of its own", 2000 + i, x.bus(i + 2, 0));
        }
    }

    private static void offLeavesTheFramesBefore() {
        FieldNet x = new FieldNet();
        x.inject(2000, 1, 2, 3);
        x.power(1, true);
        x.power(2, true);
        x.power(1, false);
        Check.due("what others put", "2000 1 2 3, 1794 0 0 0", Steps.pending(x));
    }

    private static void offKeepsObjectsAndOnResetsThem() {
        FieldNet x = new FieldNet();
        x.identify(3, 77);
        x.power(3, true);
        Steps.drain(x);
        Steps.write(x, 3, 2, 50);
        Steps.write(x, 3, 3, 102);
        Steps.write(x, 3, 4, 3);
        Steps.write(x, 3, 5, 20);
        Steps.write(x, 3, 6, 811);
        Steps.write(x, 3, 7, 11512);
        for (int k = 12; k <= 15; k++) {
            Steps.write(x, 3, k, -k);
        }
        for (int k = 8; k <= 11; k++) {
            x.input(3, k, k * k);
        }
        x.fail(3, 1);
        String before = "77 2 50 102 3 20 811 11512 64 81 100 121 -12 -13 -14 -15 9";
        Check.due("before", before, Steps.objects(x, 3));
        x.power(3, false);
        Check.due("when off", before, Steps.objects(x, 3));
        x.power(3, true);
        Check.due("when on again", "77 0 0 0 0 0 0 0 0 0 0 0 0 0 0 0 9", Steps.objects(x, 3));
        Check.due("state", Steps.PREPARED, x.state(3));
    }

    private static void onWithAFullBus() {
        FieldNet x = new FieldNet();
        for (int i = 0; i < 24; i++) {
            Check.accepted("inject", x.inject(2000, i, 0, 0));
        }
        Check.accepted("on", x.power(1, true));
        Check.due("its beat is lost", 1, x.bus(-1, 1));
        Check.due("pending", 24, x.bus(-1, 0));
        Check.due("state", Steps.PREPARED, x.state(1));
    }

    private static void offMeansDeaf() {
        FieldNet x = Steps.withNodesOn(1);
        Steps.write(x, 1, 2, 3);
        x.power(1, false);
        Check.due("no answer", "none", Steps.answerTo(x, 1, 2, 0, 0));
        Steps.command(x, 1, 1);
        Check.due("obeys nothing", Steps.OFF, x.state(1));
        Steps.command(x, 129, 0);
        Check.due("is not reset", Steps.OFF, x.state(1));
        Check.due("objects stay", 3, x.object(1, 2));
        for (int i = 0; i < 10; i++) {
            Check.due("no beat", 0, x.tick());
        }
    }

    private static void offLeavesTheMasterAsItIs() {
        FieldNet x = new FieldNet();
        x.expect(1, 1001, 5);
        x.power(1, true);
        Steps.ticks(x, 3);
        x.inject(1793, 5, 0, 0);
        Steps.ticks(x, 1);
        x.power(1, false);
        Check.due("phase", 4, x.phase(1));
        Check.accepted("still expected", x.configure(1, 12, 1));
        Steps.ticks(x, 4);
        Check.due("4 above", "1100 2100", Steps.reports(x));
        Steps.ticks(x, 1);
        Check.due("5 above: it was heard", "1100 2100 4100", Steps.reports(x));
    }

    private static void inEveryState() {
        for (int command : new int[] {1, 2, 128}) {
            FieldNet x = Steps.withNodesOn(1);
            Steps.command(x, command, 1);
            int state = x.state(1);
            Check.refused("on already", x.power(1, true));
            Check.due("state stays", state, x.state(1));
            Check.accepted("off", x.power(1, false));
            Check.due("state", Steps.OFF, x.state(1));
            Check.accepted("on", x.power(1, true));
            Check.due("state", Steps.PREPARED, x.state(1));
        }
    }
}
