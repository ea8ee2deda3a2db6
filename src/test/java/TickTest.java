/** Promise 12: tick; the slots of the bus, and what stations do by themselves. */
public final class TickTest {
    public static void main(String[] args) {
        lowestIdFirst();
        whatIsPutCanBeCarriedInTheNextSlot();
        nodesHearByNumber();
        servedThoughTheClientIsDone();
        fullBusLosesFrames();
        beats();
        writingPeriodMovesTheBeat();
        beatTellsTheState();
        watching();
        watchingAnew();
        watchedBeatOfZero();
        masterMissesNodes();
        stepsInTheirOrder();
        fiveHundredAndTwelveCalls();
        Check.end();
    }

    private static void lowestIdFirst() {
        FieldNet x = new FieldNet();
        x.inject(7, 0, 0, 0);
        x.inject(5, 1, 0, 0);
        x.inject(6, 2, 0, 0);
        x.inject(5, 3, 0, 0);
        x.inject(2047, 4, 0, 0);
        x.inject(5, 5, 0, 0);
        x.inject(5, 6, 0, 0);
        Check.due("three slots", 3, x.tick());
        Check.due("rest", "7 0 0 0, 6 2 0 0, 2047 4 0 0, 5 6 0 0", Steps.pending(x));
        x.disturb(1);
        Check.due("two slots", 2, x.tick());
        Check.due("rest", "7 0 0 0, 2047 4 0 0", Steps.pending(x));
        Check.due("two frames", 2, x.tick());
        Check.due("none", 0, x.tick());
        Check.due("NOW", 4, x.bus(-1, 3));
    }

    private static void whatIsPutCanBeCarriedInTheNextSlot() {
        FieldNet x = Steps.withNodesOn(1, 2);
        x.transfer(1, 0, false, 0);
        Check.due("request and answer", 2, x.tick());
        Check.due("over", 1001, x.client(2));
        x.transfer(1, 0, false, 0);
        x.inject(1536, 0, 0, 0);
        x.inject(1536, 0, 0, 0);
        Check.due("the request has the last slot", 3, x.tick());
        Check.due("the answer waits", "1409 2 0 1001", Steps.pending(x));
        Check.due("the answer", 1, x.tick());
        x.inject(0, 129, 0, 0);
        Check.due("a command and both beats", 3, x.tick());
    }

    private static void nodesHearByNumber() {
        FieldNet x = Steps.withNodesOn(4, 3, 2, 1);
        x.inject(0, 129, 0, 0);
        Steps.carryOne(x);
        Check.due("beats", "1793 0 0 0, 1794 0 0 0, 1795 0 0 0, 1796 0 0 0", Steps.pending(x));
    }

    private static void servedThoughTheClientIsDone() {
        FieldNet x = Steps.withNodesOn(3);
        x.transfer(3, 12, true, 5);
        x.inject(1411, 9, 12, 8);
        Check.due("injected answer, request, answer", 3, x.tick());
        Check.due("the injected answer was first", "0 8 0 0 -1", Steps.client(x));
        Check.due("the request is served all the same", 5, x.object(3, 12));
    }

    private static void fullBusLosesFrames() {
        FieldNet x = Steps.withNodesOn(1, 2);
        for (int i = 0; i < 24; i++) {
            x.inject(2000, i, 0, 0);
        }
        x.fail(1, 3);
        Check.due("lost", 1, x.bus(-1, 1));
        Check.due("error is set all the same", 2, x.object(1, 1));
        x.fail(2, 3);
        Check.due("lost", 2, x.bus(-1, 1));
        x.sync(1);
        x.disturb(3);
        x.tick();
        Check.due("the sync is lost", 3, x.bus(-1, 1));
        x.sync(0);
        Check.due("three", 3, x.tick());
        x.inject(0, 129, 0, 0);
        x.inject(2047, 0, 0, 0);
        x.inject(2047, 0, 0, 0);
        Check.due("full", 24, x.bus(-1, 0));
        Check.due("the command leaves one place", 3, x.tick());
        Check.due("one beat of two is lost", 4, x.bus(-1, 1));
        Check.due("and one was carried", "1100 1200 1100", Steps.reports(x));
    }

    private static void beats() {
        for (int period : new int[] {1, 2, 7, 50}) {
            FieldNet x = Steps.withNodesOn(2);
            x.inject(1538, 1, 2, period);
            Check.due("write and answer", 2, x.tick());
            for (int i = 1; i <= 101; i++) {
                Check.due("period " + period + ", tick " + i, i % period == 0 ? 1 : 0, x.tick());
            }
        }
        FieldNet x = Steps.withNodesOn(2);
        x.inject(1538, 1, 2, 3);
        x.tick();
        x.inject(1538, 1, 2, 0);
        x.tick();
        for (int i = 1; i <= 20; i++) {
            Check.due("no period", 0, x.tick());
        }
    }

    private static void writingPeriodMovesTheBeat() {
        FieldNet x = Steps.withNodesOn(2);
        Steps.ticks(x, 10);
        x.inject(1538, 1, 2, 4);
        Steps.ticks(x, 3);
        x.inject(1538, 1, 2, 4);
        Check.due("3 above: only write and answer", 2, x.tick());
        Check.due("1", 0, x.tick());
        Check.due("2", 0, x.tick());
        Check.due("3", 0, x.tick());
        Check.due("4", 1, x.tick());
        Steps.ticks(x, 2);
        x.inject(1538, 1, 2, 51);
        Check.due("3 above: a refused write", 2, x.tick());
        Check.due("4 above: the beat is not moved", 1, x.tick());
        Steps.ticks(x, 2);
        x.inject(0, 129, 2, 0);
        Check.due("reset and beat", 2, x.tick());
        Steps.ticks(x, 3);
        Check.due("no period", 0, x.object(2, 2));
        Check.due("no beat", 0, x.tick());
    }

    private static void beatTellsTheState() {
        int[] commands = {128, 1, 2};
        int[] states = {Steps.PREPARED, Steps.RUNNING, Steps.STOPPED};
        for (int i = 0; i < 3; i++) {
            FieldNet x = Steps.withNodesOn(4);
            Steps.write(x, 4, 2, 2);
            x.inject(0, commands[i], 4, 0);
            x.tick();
            Steps.drain(x);
            x.disturb(6);
            Steps.ticks(x, 2);
            Check.due("beat", "1796 " + states[i] + " 0 0", Steps.pending(x));
        }
    }

    private static void watching() {
        FieldNet x = Steps.withNodesOn(1, 2);
        Steps.write(x, 1, 3, 203);
        Steps.run(x, 1);
        Steps.ticks(x, 60);
        Check.due("nothing was heard yet", 0, x.object(1, 1));
        x.inject(1794, 127, 0, 0);
        x.inject(1795, 5, 0, 0);
        Check.due("heard", 2, x.tick());
        Check.due("1 above", 0, x.tick());
        Check.due("2 above", 0, x.tick());
        Check.due("no error yet", 0, x.object(1, 1));
        Check.due("still running", Steps.RUNNING, x.state(1));
        x.disturb(3);
        Check.due("3 above", 0, x.tick());
        Check.due("emergency", "129 1 0 0", Steps.pending(x));
        Check.due("error", 1, x.object(1, 1));
        Check.due("prepared", Steps.PREPARED, x.state(1));
        Check.due("state of the other", Steps.PREPARED, x.state(2));
        Steps.drain(x);
        for (int i = 0; i < 10; i++) {
            Check.due("once", 0, x.tick());
        }
        Check.due("report", 5101, x.report(x.report(-1) - 1));
        Steps.command(x, 2, 1);
        x.inject(1794, 5, 0, 0);
        Steps.ticks(x, 5);
        Check.due("stopped stays stopped", Steps.STOPPED, x.state(1));
        Check.due("report", 5101, x.report(x.report(-1) - 1));
        Steps.run(x, 1);
        x.inject(1794, -1, 0, 0);
        Steps.ticks(x, 2);
        x.inject(1794, 4, 0, 0);
        Steps.ticks(x, 3);
        Check.due("heard again in time", Steps.RUNNING, x.state(1));
        Steps.ticks(x, 1);
        Check.due("not heard in time", Steps.PREPARED, x.state(1));
    }

    private static void watchingAnew() {
        FieldNet x = Steps.withNodesOn(1);
        Steps.write(x, 1, 3, 205);
        x.inject(1794, 5, 0, 0);
        Steps.drain(x);
        Steps.write(x, 1, 3, 205);
        Steps.ticks(x, 10);
        Check.due("writing it: nothing was heard yet", 0, x.object(1, 1));
        x.inject(1794, 5, 0, 0);
        Steps.drain(x);
        x.inject(1537, 1, 3, 251);
        Steps.ticks(x, 10);
        Check.due("a refused write changes nothing", 1, x.object(1, 1));
        FieldNet y = Steps.withNodesOn(1);
        y.inject(1792, 5, 0, 0);
        y.inject(1794, 5, 0, 0);
        Steps.ticks(y, 10);
        Steps.write(y, 1, 3, 401);
        y.inject(1794, 5, 0, 0);
        y.inject(1795, 5, 0, 0);
        y.inject(1793, 5, 0, 0);
        Steps.ticks(y, 10);
        Check.due("beats of others", 0, y.object(1, 1));
        y.inject(1796, 5, 0, 0);
        Steps.ticks(y, 1);
        Steps.write(y, 1, 3, 0);
        Check.due("1 above at that write", 1, y.object(1, 1));
    }

    private static void watchedBeatOfZero() {
        FieldNet x = Steps.withNodesOn(1);
        Steps.write(x, 1, 3, 203);
        x.inject(1794, 5, 0, 0);
        Steps.ticks(x, 1);
        x.inject(1794, 0, 0, 0);
        Steps.ticks(x, 10);
        Check.due("nothing is heard any more", 0, x.object(1, 1));
    }

    private static void masterMissesNodes() {
        FieldNet x = new FieldNet();
        x.expect(4, 5, 2);
        x.expect(3, 5, 2);
        x.inject(1796, 127, 0, 0);
        x.inject(1795, 127, 0, 0);
        Steps.ticks(x, 2);
        Check.due("1 above", "", Steps.reports(x));
        Steps.ticks(x, 1);
        Check.due("2 above, by number", "4300 4400", Steps.reports(x));
        Steps.ticks(x, 10);
        Check.due("once", "4300 4400", Steps.reports(x));
        x.inject(1795, -5, 0, 0);
        Steps.ticks(x, 1);
        x.inject(1795, 0, 0, 0);
        Steps.ticks(x, 1);
        x.expect(3, -1, 2);
        Steps.ticks(x, 10);
        Check.due("a beat of 0: nothing is heard", "4300 4400 1300 3307", Steps.reports(x));
        x.inject(1796, 5, 0, 0);
        Steps.ticks(x, 2);
        x.inject(1796, 5, 0, 0);
        Steps.ticks(x, 1);
        Check.due("missed before it is heard in the same tick", "4300 4400 1300 3307 4400", Steps.reports(x));
        Steps.ticks(x, 2);
        Check.due("and heard then", "4300 4400 1300 3307 4400 4400", Steps.reports(x));
    }

    /** Node 1 has a beat, a watched node and a sample all due at the tick that comes next. */
    private static FieldNet muchIsDue(int watch) {
        FieldNet x = Steps.withNodesOn(2, 1);
        Steps.write(x, 1, 6, 808);
        Steps.write(x, 1, 5, 3);
        Steps.write(x, 1, 3, watch);
        Steps.run(x, 1);
        x.inject(1537, 1, 2, 3);
        x.inject(1795, 5, 0, 0);
        Check.due("write, answer, beat", 3, x.tick());
        x.input(1, 8, 1);
        x.input(1, 8, 2);
        x.inject(1538, 1, 2, 2);
        Check.due("sample, write, answer", 3, x.tick());
        x.expect(4, 1004, 0);
        x.inject(1796, 0, 0, 0);
        Check.due("beat of 4", 1, x.tick());
        x.sync(1);
        x.disturb(3);
        Check.due("disturbed", 0, x.tick());
        return x;
    }

    private static void stepsInTheirOrder() {
        Check.due("beat, sample, the next node, sync, boot",
                "1793 5 0 0, 385 0 2 2, 1794 127 0 0, 128 0 0 0, 1540 2 0 0", Steps.pending(muchIsDue(304)));
        Check.due("beat, emergency, no sample when prepared, the next node, sync, boot",
                "1793 5 0 0, 129 1 0 0, 1794 127 0 0, 128 0 0 0, 1540 2 0 0", Steps.pending(muchIsDue(303)));
    }

    private static void fiveHundredAndTwelveCalls() {
        FieldNet x = new FieldNet();
        Check.accepted("first call", x.sync(1));
        for (int i = 1; i <= 510; i++) {
            Check.due("tick " + i, 1, x.tick());
        }
        Check.due("last call: NOW", 510, x.bus(-1, 3));
    }
}
