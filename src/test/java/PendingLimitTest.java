/**
 * "Pending (at most 24; one more is lost)": for each frame that a station puts, the 24th is pending and the 25th is
 * lost, and what goes along with the frame happens in both cases.
 */
public final class PendingLimitTest {
    public static void main(String[] args) {
        for (int before : new int[] {23, 24}) {
            beatOfANodeSwitchedOn(before);
            emergencyOfAFailure(before);
            sampleOfAnInput(before);
            requestOfATransfer(before);
            beatOfAPeriod(before);
            emergencyOfAWatch(before);
            sampleHeldBack(before);
            syncOfAPeriod(before);
            requestOfABoot(before);
        }
        injectIsRefusedAndNotLost();
        carryingLeavesAPlaceForTheAnswer();
        carryingLeavesAPlaceForTheNextRequest();
        carryingLeavesAPlaceForTheCommandOfABoot();
        oneOfFourBeatsHasAPlace();
        oneOfTwoSamplesHasAPlace();
        switchingOffLeavesPlaces();
        everyLostFrameIsCounted();
        lostFramesComeNeverBack();
        Check.end();
    }

    /** Whether the frame just put is pending as the 24th, or lost as the 25th. */
    private static void pendingOrLost(FieldNet x, int before, String frame) {
        Check.due("pending", 24, x.bus(-1, 0));
        Check.due(frame + " lost", before == 24 ? 1 : 0, x.bus(-1, 1));
        Check.due("the last one", before == 24 ? "2047 0 0 0" : frame, Steps.latestPending(x));
        Check.due("no 25th", -1, x.bus(24, 0));
    }

    private static void beatOfANodeSwitchedOn(int before) {
        FieldNet x = new FieldNet();
        Steps.fillTo(x, before);
        Check.accepted("on", x.power(4, true));
        pendingOrLost(x, before, "1796 0 0 0");
        Check.due("state", Steps.PREPARED, x.state(4));
    }

    private static void emergencyOfAFailure(int before) {
        FieldNet x = Steps.withNodesOn(2);
        Steps.fillTo(x, before);
        Check.accepted("fails", x.fail(2, 31));
        pendingOrLost(x, before, "130 31 0 0");
        Check.due("error", 2, x.object(2, 1));
        FieldNet y = Steps.withNodesOn(2);
        y.fail(2, 1);
        Steps.drain(y);
        Steps.fillTo(y, before);
        Check.accepted("is mended", y.fail(2, 0));
        pendingOrLost(y, before, "130 0 0 0");
        Check.due("no error", 0, y.object(2, 1));
    }

    private static FieldNet sender(int pause) {
        FieldNet x = Steps.withNodesOn(1);
        Steps.write(x, 1, 6, 809);
        Steps.write(x, 1, 5, pause);
        Steps.run(x, 1);
        return x;
    }

    private static void sampleOfAnInput(int before) {
        FieldNet x = sender(2);
        Steps.fillTo(x, before);
        Check.accepted("input", x.input(1, 8, 5));
        pendingOrLost(x, before, "385 0 5 0");
        Check.due("value", 5, x.object(1, 8));
        x.input(1, 8, 6);
        pendingOrLost(x, before, "385 0 5 0");
        Steps.tickWithoutCarrying(x);
        pendingOrLost(x, before, "385 0 5 0");
        Check.due("the latest sample was then: carried after the pause", 3, x.tick());
        Check.due("the held back one came", before == 24 ? 2 : 1, x.bus(-1, 1));
    }

    private static void requestOfATransfer(int before) {
        for (int write = 0; write <= 1; write++) {
            FieldNet x = new FieldNet();
            Steps.fillTo(x, before);
            Check.accepted("begins", x.transfer(3, 7, write == 1, 6));
            pendingOrLost(x, before, write == 1 ? "1539 1 7 6" : "1539 2 7 0");
            Check.due("busy", "1 0 0 3 7", Steps.client(x));
            Steps.ticks(x, 5);
            Check.due("late", "0 7 0 0 -1", Steps.client(x));
        }
    }

    private static void beatOfAPeriod(int before) {
        FieldNet x = Steps.withNodesOn(1);
        x.inject(1537, 1, 2, 2);
        Check.due("write and answer", 2, x.tick());
        Steps.fillTo(x, before);
        Steps.tickWithoutCarrying(x);
        Check.due("not yet", before, x.bus(-1, 0));
        Steps.tickWithoutCarrying(x);
        pendingOrLost(x, before, "1793 127 0 0");
        Steps.tickWithoutCarrying(x);
        pendingOrLost(x, before, "1793 127 0 0");
        Steps.tickWithoutCarrying(x);
        Check.due("the latest beat was then", before == 24 ? 2 : 1, x.bus(-1, 1));
    }

    private static void emergencyOfAWatch(int before) {
        FieldNet x = Steps.withNodesOn(1);
        Steps.write(x, 1, 3, 301);
        Steps.run(x, 1);
        x.inject(1795, 5, 0, 0);
        Check.due("heard", 1, x.tick());
        Steps.fillTo(x, before);
        Steps.tickWithoutCarrying(x);
        pendingOrLost(x, before, "129 1 0 0");
        Check.due("error", 1, x.object(1, 1));
        Check.due("state", Steps.PREPARED, x.state(1));
        Steps.tickWithoutCarrying(x);
        pendingOrLost(x, before, "129 1 0 0");
    }

    private static void sampleHeldBack(int before) {
        FieldNet x = sender(2);
        x.input(1, 8, 5);
        x.input(1, 9, 6);
        Check.due("the first", 1, x.tick());
        Steps.fillTo(x, before);
        Steps.tickWithoutCarrying(x);
        pendingOrLost(x, before, "385 0 5 6");
        for (int i = 0; i < 4; i++) {
            Steps.tickWithoutCarrying(x);
        }
        pendingOrLost(x, before, "385 0 5 6");
    }

    private static void syncOfAPeriod(int before) {
        FieldNet x = new FieldNet();
        Steps.fillTo(x, before);
        x.sync(1);
        Steps.tickWithoutCarrying(x);
        pendingOrLost(x, before, "128 0 0 0");
    }

    private static void requestOfABoot(int before) {
        FieldNet x = new FieldNet();
        x.expect(2, 1002, 0);
        x.inject(1794, 0, 0, 0);
        Steps.ticks(x, 1);
        Steps.fillTo(x, before);
        Steps.tickWithoutCarrying(x);
        pendingOrLost(x, before, "1538 2 0 0");
        Check.due("phase", 2, x.phase(2));
        Check.due("client", "1 0 0 2 0", Steps.client(x));
        Steps.ticks(x, 5);
        Check.due("late", 7, x.phase(2));
    }

    private static void injectIsRefusedAndNotLost() {
        FieldNet x = new FieldNet();
        for (int i = 1; i <= 24; i++) {
            Check.accepted("frame " + i, x.inject(2047, 0, 0, 0));
            Check.due("pending", i, x.bus(-1, 0));
        }
        Check.refused("frame 25", x.inject(0, 1, 0, 0));
        Check.due("pending", 24, x.bus(-1, 0));
        Check.due("lost", 0, x.bus(-1, 1));
    }

    private static void carryingLeavesAPlaceForTheAnswer() {
        FieldNet x = Steps.withNodesOn(1);
        x.transfer(1, 0, false, 0);
        Steps.fillTo(x, 24);
        Check.due("request, answer, filler", 3, x.tick());
        Check.due("none is lost", 0, x.bus(-1, 1));
        Check.due("pending", 22, x.bus(-1, 0));
        Check.due("client", "0 0 1001 0 -1", Steps.client(x));
    }

    private static void carryingLeavesAPlaceForTheNextRequest() {
        FieldNet x = Steps.withNodesOn(1);
        x.transfer(1, 16, false, 0);
        for (int i = 0; i < 3; i++) {
            Steps.fillTo(x, 24);
            x.tick();
        }
        Check.due("none is lost", 0, x.bus(-1, 1));
        Check.due("text", "NODE 1:1001", Steps.text(x));
    }

    private static void carryingLeavesAPlaceForTheCommandOfABoot() {
        FieldNet x = new FieldNet();
        x.expect(1, 1001, 0);
        x.configure(1, 12, 1);
        x.power(1, true);
        Steps.ticks(x, 1);
        Steps.fillTo(x, 23);
        Check.due("read, answer, write", 3, x.tick());
        Steps.fillTo(x, 24);
        Check.due("answer, command, filler", 3, x.tick());
        Check.due("none is lost", 0, x.bus(-1, 1));
        Check.due("state", Steps.RUNNING, x.state(1));
    }

    private static void oneOfFourBeatsHasAPlace() {
        FieldNet x = Steps.withNodesOn(1, 2, 3, 4);
        x.inject(0, 0, 0, 0);
        x.inject(0, 0, 0, 0);
        x.inject(0, 129, 0, 0);
        Steps.fillTo(x, 24);
        Check.due("the commands", 3, x.tick());
        Check.due("places that the first two left, and one", 24, x.bus(-1, 0));
        Check.due("lost", 1, x.bus(-1, 1));
        Check.due("the last one", "1795 0 0 0", Steps.latestPending(x));
        x.inject(0, 129, 0, 0);
        Check.due("full", 24, x.bus(-1, 0));
        for (int n = 1; n <= 4; n++) {
            Check.due("each is reset", Steps.PREPARED, x.state(n));
        }
        FieldNet y = Steps.withNodesOn(1, 2, 3, 4);
        y.inject(0, 129, 0, 0);
        Steps.fillTo(y, 24);
        y.tick();
        Check.due("lost", 3, y.bus(-1, 1));
        Check.due("the beat of the lowest has the place", "1100 1200 1300 1400 1100", Steps.reports(y));
    }

    private static void oneOfTwoSamplesHasAPlace() {
        FieldNet x = Steps.withNodesOn(1, 2);
        Steps.write(x, 1, 4, 1);
        Steps.write(x, 2, 4, 1);
        Steps.command(x, 1, 0);
        x.inject(128, 0, 0, 0);
        Steps.fillTo(x, 24);
        Check.due("sync, sample, filler", 3, x.tick());
        Check.due("lost", 1, x.bus(-1, 1));
        Check.due("pending", 22, x.bus(-1, 0));
    }

    private static void switchingOffLeavesPlaces() {
        FieldNet x = Steps.withNodesOn(1);
        x.fail(1, 1);
        Steps.fillTo(x, 23);
        x.fail(1, 2);
        x.fail(1, 3);
        Check.due("lost", 1, x.bus(-1, 1));
        x.power(1, false);
        Check.due("pending", 22, x.bus(-1, 0));
        Check.due("those that are gone are not lost", 1, x.bus(-1, 1));
        Check.accepted("a place", x.inject(5, 0, 0, 0));
        Check.accepted("and another", x.inject(5, 0, 0, 0));
        Check.refused("and no more", x.inject(5, 0, 0, 0));
    }

    private static void everyLostFrameIsCounted() {
        FieldNet x = Steps.withNodesOn(1);
        Steps.fillTo(x, 24);
        for (int i = 1; i <= 100; i++) {
            x.fail(1, i % 32);
            Check.due("lost", i, x.bus(-1, 1));
        }
        Check.due("pending", 24, x.bus(-1, 0));
    }

    private static void lostFramesComeNeverBack() {
        FieldNet x = Steps.withNodesOn(1);
        Steps.fillTo(x, 24);
        x.fail(1, 7);
        Steps.drain(x);
        Check.due("no emergency was heard", "1100", Steps.reports(x));
        Check.due("lost", 1, x.bus(-1, 1));
    }
}
