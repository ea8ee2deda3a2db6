/** Promise 9: sync, and what nodes do at a sync. */
public final class SyncTest {
    public static void main(String[] args) {
        putsOnMultiples();
        wrongInputs();
        nodesCountSyncs();
        noMapSendsZeros();
        onlyRunningNodesWithAType();
        writingTypeCountsAnew();
        sampleFillsOutputs();
        onlyTheSourceFills();
        syncsAreCountedOnlyWhenRunning();
        offNodesTakeNoSample();
        Check.end();
    }

    private static void putsOnMultiples() {
        for (int period = 1; period <= 20; period++) {
            FieldNet x = new FieldNet();
            Steps.ticks(x, 2);
            Check.accepted("period " + period, x.sync(period));
            for (int now = 3; now <= 45; now++) {
                Check.due("period " + period + ", NOW " + now, now % period == 0 ? 1 : 0, x.tick());
            }
            Check.accepted("none", x.sync(0));
            Check.due("none", 0, x.tick() + x.tick());
        }
        FieldNet x = new FieldNet();
        x.sync(1);
        x.disturb(3);
        x.tick();
        Check.due("frame", "128 0 0 0", Steps.pending(x));
    }

    private static void wrongInputs() {
        FieldNet x = new FieldNet();
        x.sync(2);
        for (int period : new int[] {-1, 21, Integer.MIN_VALUE, Integer.MAX_VALUE}) {
            Check.refused("period " + period, x.sync(period));
        }
        Check.due("NOW 1", 0, x.tick());
        Check.due("NOW 2", 1, x.tick());
    }

    private static void nodesCountSyncs() {
        for (int type = 1; type <= 4; type++) {
            FieldNet x = Steps.withNodesOn(3);
            Steps.write(x, 3, 4, type);
            Steps.write(x, 3, 6, 1110);
            Steps.run(x, 3);
            x.input(3, 11, 7);
            x.input(3, 10, 6);
            x.sync(1);
            for (int i = 1; i <= 12; i++) {
                Check.due("type " + type + ", sync " + i, i % type == 0 ? 2 : 1, x.tick());
            }
        }
    }

    private static void noMapSendsZeros() {
        FieldNet x = Steps.withNodesOn(3);
        Steps.write(x, 3, 4, 1);
        Steps.run(x, 3);
        for (int i = 8; i <= 11; i++) {
            x.input(3, i, i);
        }
        x.inject(128, 5, 6, 7);
        Steps.carryOne(x);
        Check.due("no map", "387 0 0 0", Steps.pending(x));
    }

    private static void onlyRunningNodesWithAType() {
        FieldNet x = Steps.withNodesOn(1, 2);
        Steps.write(x, 1, 4, 1);
        x.sync(1);
        Check.due("prepared", 1, x.tick());
        x.sync(0);
        Steps.command(x, 2, 1);
        x.sync(1);
        Check.due("stopped", 1, x.tick());
        x.sync(0);
        Steps.run(x, 2);
        x.sync(1);
        Check.due("type 0", 1, x.tick());
        x.sync(0);
        Steps.run(x, 1);
        x.sync(1);
        Check.due("running", 2, x.tick());
    }

    private static void writingTypeCountsAnew() {
        FieldNet x = Steps.withNodesOn(1);
        Steps.write(x, 1, 4, 3);
        Steps.run(x, 1);
        x.sync(1);
        Check.due("first", 1, x.tick());
        Check.due("second", 1, x.tick());
        x.sync(0);
        Steps.command(x, 128, 1);
        Steps.run(x, 1);
        x.sync(1);
        Check.due("a command does not count anew", 2, x.tick());
        Check.due("first", 1, x.tick());
        Check.due("second", 1, x.tick());
        x.sync(0);
        Steps.command(x, 128, 1);
        Steps.write(x, 1, 4, 3);
        Steps.run(x, 1);
        x.sync(1);
        Check.due("first again", 1, x.tick());
        x.sync(0);
        Steps.command(x, 128, 1);
        x.inject(1537, 1, 4, 5);
        Steps.drain(x);
        Steps.run(x, 1);
        x.sync(1);
        Check.due("a refused write does not count anew", 1, x.tick());
        Check.due("third", 2, x.tick());
    }

    private static void sampleFillsOutputs() {
        FieldNet x = Steps.withNodesOn(1, 2, 3);
        Steps.write(x, 1, 4, 1);
        Steps.write(x, 1, 6, 908);
        Steps.write(x, 2, 7, 11214);
        Steps.write(x, 3, 7, 11515);
        Steps.run(x, 1);
        Steps.run(x, 2);
        Steps.run(x, 3);
        x.input(1, 8, 80);
        x.input(1, 9, 90);
        x.sync(1);
        Check.due("sync and sample", 2, x.tick());
        Check.due("x and y", "1002 0 0 0 0 0 0 11214 0 0 0 0 90 0 80 0 11", Steps.objects(x, 2));
        Check.due("y last", "1003 0 0 0 0 0 0 11515 0 0 0 0 0 0 0 80 11", Steps.objects(x, 3));
    }

    private static void onlyTheSourceFills() {
        FieldNet x = Steps.withNodesOn(2);
        Steps.write(x, 2, 7, 41213);
        x.inject(388, 0, 1, 2);
        Steps.drain(x);
        Check.due("prepared", 0, x.object(2, 12));
        Steps.run(x, 2);
        x.inject(385, 0, 1, 2);
        x.inject(386, 0, 1, 2);
        x.inject(387, 0, 1, 2);
        x.inject(384, 0, 1, 2);
        x.inject(389, 0, 1, 2);
        Steps.drain(x);
        Check.due("of others", 0, x.object(2, 12) + x.object(2, 13));
        x.inject(388, 7, -1, -2);
        Steps.drain(x);
        Check.due("of the source", "1002 0 0 0 0 0 0 41213 0 0 0 0 -1 -2 0 0 11", Steps.objects(x, 2));
        Steps.command(x, 2, 2);
        x.inject(388, 0, 5, 5);
        Steps.drain(x);
        Check.due("stopped", -1, x.object(2, 12));
        Steps.command(x, 129, 2);
        Steps.run(x, 2);
        x.inject(384, 0, 1, 2);
        x.inject(388, 0, 1, 2);
        Steps.drain(x);
        Check.due("no source", "1002 0 0 0 0 0 0 0 0 0 0 0 0 0 0 0 11", Steps.objects(x, 2));
    }

    private static void syncsAreCountedOnlyWhenRunning() {
        for (int a : new int[] {2, 128}) {
            FieldNet x = Steps.withNodesOn(1);
            Steps.write(x, 1, 4, 2);
            Steps.command(x, a, 1);
            for (int i = 0; i < 3; i++) {
                x.inject(128, 0, 0, 0);
                Check.due("not running", 1, x.tick());
            }
            Steps.run(x, 1);
            x.inject(128, 0, 0, 0);
            Check.due("first", 1, x.tick());
            x.inject(128, 0, 0, 0);
            Check.due("second, and a sample", 2, x.tick());
        }
    }

    private static void offNodesTakeNoSample() {
        FieldNet x = Steps.withNodesOn(2);
        Steps.write(x, 2, 7, 11213);
        Steps.run(x, 2);
        x.power(2, false);
        x.inject(385, 0, 1, 2);
        Check.due("carried", 1, x.tick());
        Check.due("outputs", 0, x.object(2, 12) + x.object(2, 13));
    }
}
