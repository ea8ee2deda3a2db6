/** The steps of a TICK, each at the edge where it is just due and where it is just not. */
public final class TickStepTest {
    public static void main(String[] args) {
        nowGrowsFirst();
        beatIsDueAtThePeriod();
        noBeatWithPeriodZero();
        watchedNodeIsMissedAtItsTime();
        heardJustInTime();
        notWatchedOrNotHeard();
        everyBeatButOfZeroIsHeard();
        heardInEveryStateButOff();
        missedOnlyOnce();
        bitZeroIsSetThoughItIsSet();
        onlyARunningNodeIsPrepared();
        heldBackSampleIsDueAtThePause();
        pauseWrittenMeanwhile();
        mapWrittenMeanwhile();
        heldBackOnlyWhenRunningWithTypeZero();
        offNodesDoNothing();
        beatBeforeWatchBeforeSample();
        nodesByNumber();
        syncOnMultiplesOnly();
        masterMissesANodeAtItsTime();
        masterMissesOnlyOnce();
        timeGivenLater();
        transferIsLateAtUntil();
        missedBeforeLate();
        lateBeforeBoot();
        bootOnlyWhenIdle();
        threeSlots();
        disturbedSlots();
        lowestIdOfAll();
        putFirstOfEqualOnes();
        whatIsPutCanBeCarriedAtOnce();
        Check.end();
    }

    private static void nowGrowsFirst() {
        FieldNet x = Steps.withNodesOn(1);
        int before = x.bus(-1, 3);
        x.inject(1537, 1, 2, 1);
        Check.due("write and answer", 2, x.tick());
        Check.due("NOW", before + 1, x.bus(-1, 3));
        Check.due("one above the write", 1, x.tick());
        FieldNet y = new FieldNet();
        y.sync(1);
        Check.due("1 is a multiple, 0 was not looked at", 1, y.tick());
    }

    private static void beatIsDueAtThePeriod() {
        for (int period = 1; period <= 50; period++) {
            FieldNet x = Steps.withNodesOn(1);
            x.inject(1537, 1, 2, period);
            Check.due("write and answer", 2, x.tick());
            for (int i = 1; i < period; i++) {
                Check.due("period " + period + ", " + i + " above", 0, x.tick());
            }
            Check.due("period " + period, 1, x.tick());
            Check.due("and anew from there", period == 1 ? 1 : 0, x.tick());
        }
    }

    private static void noBeatWithPeriodZero() {
        FieldNet x = Steps.withNodesOn(1, 2, 3, 4);
        for (int i = 0; i < 120; i++) {
            Check.due("no beat", 0, x.tick());
        }
    }

    /** Node 1 runs, watches node 2 with time t, and has just heard it. */
    private static FieldNet watcher(int t) {
        FieldNet x = Steps.withNodesOn(1);
        Steps.write(x, 1, 3, 200 + t);
        Steps.run(x, 1);
        x.inject(1794, 5, 0, 0);
        Check.due("heard", 1, x.tick());
        return x;
    }

    private static void watchedNodeIsMissedAtItsTime() {
        for (int t = 1; t <= 50; t++) {
            FieldNet x = watcher(t);
            for (int i = 1; i < t; i++) {
                Check.due("time " + t + ", " + i + " above", 0, x.tick());
            }
            Check.due("not yet", 0, x.object(1, 1));
            Check.due("not yet", Steps.RUNNING, x.state(1));
            Steps.tickWithoutCarrying(x);
            Check.due("emergency", "129 1 0 0", Steps.pending(x));
            Check.due("error", 1, x.object(1, 1));
            Check.due("state", Steps.PREPARED, x.state(1));
        }
    }

    private static void heardJustInTime() {
        FieldNet x = watcher(3);
        for (int i = 0; i < 20; i++) {
            x.tick();
            x.inject(1794, 5, 0, 0);
            Check.due("the beat alone", 1, x.tick());
        }
        Steps.ticks(x, 2);
        x.inject(1794, 5, 0, 0);
        Check.due("in the third tick it is too late: emergency and beat", 2, x.tick());
        Check.due("error", 1, x.object(1, 1));
    }

    private static void notWatchedOrNotHeard() {
        FieldNet x = Steps.withNodesOn(1);
        x.inject(1794, 5, 0, 0);
        Steps.ticks(x, 60);
        Check.due("it watches no node", 0, x.object(1, 1));
        Steps.write(x, 1, 3, 201);
        Steps.ticks(x, 60);
        Check.due("it has heard nothing since", 0, x.object(1, 1));
        x.inject(1794, 5, 0, 0);
        x.inject(1794, 0, 0, 0);
        Check.due("heard, and heard nothing", 2, x.tick());
        Steps.ticks(x, 60);
        Check.due("a beat with 0", 0, x.object(1, 1));
    }

    private static void everyBeatButOfZeroIsHeard() {
        for (int a : new int[] {Integer.MIN_VALUE, -1, 1, 4, 5, 127, 128, 256, 65536, Integer.MAX_VALUE}) {
            FieldNet x = Steps.withNodesOn(1);
            Steps.write(x, 1, 3, 202);
            x.expect(2, -1, 3);
            x.inject(1794, a, 0, 0);
            Check.due("heard", 1, x.tick());
            Steps.ticks(x, 1);
            Check.due("not yet", 0, x.object(1, 1));
            Check.due("the node misses it, A was " + a, 1, x.tick());
            Check.due("reports", "1100 5101", Steps.reports(x));
            Steps.ticks(x, 1);
            Check.due("the master misses it, A was " + a, "1100 5101 4200", Steps.reports(x));
        }
    }

    private static void heardInEveryStateButOff() {
        for (int command : new int[] {1, 2, 128}) {
            FieldNet x = Steps.withNodesOn(1);
            Steps.write(x, 1, 3, 203);
            Steps.command(x, command, 1);
            x.inject(1794, 5, 0, 0);
            Check.due("heard", 1, x.tick());
            Steps.ticks(x, 2);
            Check.due("not yet", 0, x.object(1, 1));
            Check.due("emergency", 1, x.tick());
            Check.due("error", 1, x.object(1, 1));
        }
        FieldNet x = watcher(3);
        x.power(1, false);
        x.inject(1794, 5, 0, 0);
        Steps.ticks(x, 10);
        Check.due("off", 0, x.object(1, 1));
    }

    private static void missedOnlyOnce() {
        FieldNet x = watcher(2);
        Steps.ticks(x, 1);
        Check.due("emergency", 1, x.tick());
        for (int i = 0; i < 60; i++) {
            Check.due("nothing is heard any more", 0, x.tick());
        }
        x.inject(1794, 5, 0, 0);
        Steps.ticks(x, 2);
        Check.due("heard again, missed again", 1, x.tick());
    }

    private static void bitZeroIsSetThoughItIsSet() {
        FieldNet x = watcher(1);
        for (int i = 0; i < 3; i++) {
            Check.due("emergency", 1, x.tick());
            Check.due("error", 1, x.object(1, 1));
            x.inject(1794, 5, 0, 0);
            Check.due("heard", 1, x.tick());
        }
        x.fail(1, 31);
        Check.due("emergencies of both kinds", 2, x.tick());
        Check.due("both bits", 3, x.object(1, 1));
        x.inject(1794, 5, 0, 0);
        Check.due("heard", 1, x.tick());
        Check.due("emergency", 1, x.tick());
        Check.due("both bits", 3, x.object(1, 1));
    }

    private static void onlyARunningNodeIsPrepared() {
        int[] commands = {1, 2, 128};
        int[] states = {Steps.PREPARED, Steps.STOPPED, Steps.PREPARED};
        for (int i = 0; i < 3; i++) {
            FieldNet x = watcher(5);
            Steps.command(x, commands[i], 1);
            Steps.ticks(x, 6);
            Check.due("missed", 1, x.object(1, 1));
            Check.due("state", states[i], x.state(1));
        }
    }

    /** Node 1 has just sent a sample, and holds back another. */
    private static FieldNet holder(int pause) {
        FieldNet x = Steps.withNodesOn(1);
        Steps.write(x, 1, 6, 809);
        Steps.write(x, 1, 5, pause);
        Steps.run(x, 1);
        x.input(1, 8, 1);
        x.input(1, 8, 2);
        Check.due("one is sent", "385 0 1 0", Steps.pending(x));
        return x;
    }

    private static void heldBackSampleIsDueAtThePause() {
        for (int pause = 1; pause <= 20; pause++) {
            FieldNet x = holder(pause);
            Check.due("pause " + pause, pause == 1 ? 2 : 1, x.tick());
            for (int i = 2; i <= 45; i++) {
                Check.due("pause " + pause + ", " + i + " above", i == pause ? 1 : 0, x.tick());
            }
        }
    }

    private static void pauseWrittenMeanwhile() {
        FieldNet x = holder(20);
        Steps.ticks(x, 6);
        x.inject(1537, 1, 5, 3);
        Check.due("write and answer", 2, x.tick());
        Check.due("more than the new pause above", 1, x.tick());
        FieldNet y = holder(2);
        y.inject(1537, 1, 5, 4);
        Check.due("sample, write and answer", 3, y.tick());
        Check.due("2 above", 0, y.tick());
        Check.due("3 above", 0, y.tick());
        Check.due("4 above", 1, y.tick());
        FieldNet z = holder(20);
        z.inject(1537, 1, 5, 0);
        Check.due("sample, write and answer", 3, z.tick());
        Check.due("no pause any more", 1, z.tick());
    }

    private static void mapWrittenMeanwhile() {
        FieldNet x = holder(9);
        Steps.command(x, 128, 1);
        Steps.write(x, 1, 6, 0);
        Steps.run(x, 1);
        for (int i = 4; i <= 8; i++) {
            Check.due(i + " above", 0, x.tick());
        }
        Steps.tickWithoutCarrying(x);
        Check.due("a sample of no map", "385 0 0 0", Steps.pending(x));
    }

    private static void heldBackOnlyWhenRunningWithTypeZero() {
        FieldNet x = holder(1);
        x.inject(0, 128, 1, 0);
        Check.due("sent before the command is carried", 3, x.tick());
        FieldNet y = holder(9);
        Steps.command(y, 128, 1);
        Steps.write(y, 1, 4, 4);
        Steps.run(y, 1);
        for (int i = 0; i < 30; i++) {
            Check.due("with a type", 0, y.tick());
        }
        Steps.command(y, 128, 1);
        Steps.write(y, 1, 4, 0);
        for (int i = 0; i < 30; i++) {
            Check.due("prepared", 0, y.tick());
        }
        y.inject(0, 2, 1, 0);
        Check.due("stop", 1, y.tick());
        for (int i = 0; i < 30; i++) {
            Check.due("stopped", 0, y.tick());
        }
        y.inject(0, 1, 1, 0);
        Check.due("run", 1, y.tick());
        Check.due("the held back one", 1, y.tick());
        Check.due("none is held back any more", 0, y.tick());
    }

    private static void offNodesDoNothing() {
        FieldNet x = holder(3);
        Steps.write(x, 1, 2, 50);
        Steps.write(x, 1, 3, 250);
        x.inject(1794, 5, 0, 0);
        Steps.drain(x);
        x.input(1, 9, 3);
        x.power(1, false);
        String before = Steps.objects(x, 1);
        for (int i = 0; i < 120; i++) {
            Check.due("no beat, emergency or sample", 0, x.tick());
        }
        Check.due("objects", before, Steps.objects(x, 1));
        Check.due("state", Steps.OFF, x.state(1));
    }

    /** Node n has a beat, a held back sample and, if t is 2, a watched node to miss, all due at the next tick. */
    private static void makeMuchDue(FieldNet x, int n, int t) {
        int m = n == 1 ? 2 : 1;
        Steps.write(x, n, 6, 808);
        Steps.write(x, n, 5, 2);
        Steps.write(x, n, 3, 100 * m + t);
        Steps.run(x, n);
        x.inject(1536 + n, 1, 2, 2);
        x.inject(1792 + m, 5, 0, 0);
        Check.due("write, answer, beat", 3, x.tick());
        x.input(n, 8, 1);
        x.input(n, 8, 2);
        Check.due("the first sample", 1, x.tick());
    }

    private static void beatBeforeWatchBeforeSample() {
        FieldNet x = Steps.withNodesOn(3);
        makeMuchDue(x, 3, 3);
        Steps.tickWithoutCarrying(x);
        Check.due("beat, then sample", "1795 5 0 0, 387 0 2 2", Steps.pending(x));
        FieldNet y = Steps.withNodesOn(3);
        makeMuchDue(y, 3, 2);
        Steps.tickWithoutCarrying(y);
        Check.due("beat of a running node, then emergency, and no sample of a prepared one",
                "1795 5 0 0, 131 1 0 0", Steps.pending(y));
    }

    private static void nodesByNumber() {
        FieldNet x = Steps.withNodesOn(4, 3, 2, 1);
        for (int n = 3; n >= 1; n--) {
            Steps.write(x, n, 3, 402);
        }
        x.inject(1796, 5, 0, 0);
        Check.due("heard", 1, x.tick());
        Check.due("1 above", 0, x.tick());
        Steps.tickWithoutCarrying(x);
        Check.due("emergencies", "129 1 0 0, 130 1 0 0, 131 1 0 0", Steps.pending(x));
    }

    private static void syncOnMultiplesOnly() {
        for (int period = 0; period <= 20; period++) {
            FieldNet x = new FieldNet();
            x.sync(period);
            for (int now = 1; now <= 41; now++) {
                boolean due = period > 0 && now % period == 0;
                Check.due("period " + period + ", NOW " + now, due ? 1 : 0, x.tick());
            }
        }
    }

    private static void masterMissesANodeAtItsTime() {
        for (int time = 1; time <= 50; time++) {
            int n = time % 4 + 1;
            FieldNet x = new FieldNet();
            x.expect(n, 1000 + n, time);
            x.inject(1792 + n, 5, 0, 0);
            Steps.ticks(x, time);
            Check.due("time " + time + ", just not", "", Steps.reports(x));
            Steps.ticks(x, 1);
            Check.due("time " + time, "4" + n + "00", Steps.reports(x));
        }
    }

    private static void masterMissesOnlyOnce() {
        FieldNet x = new FieldNet();
        x.expect(2, 1002, 1);
        x.inject(1794, 5, 0, 0);
        Steps.ticks(x, 60);
        Check.due("nothing is heard any more", "4200", Steps.reports(x));
        x.inject(1794, 5, 0, 0);
        Steps.ticks(x, 60);
        Check.due("heard again, missed again", "4200 4200", Steps.reports(x));
    }

    private static void timeGivenLater() {
        FieldNet x = new FieldNet();
        x.inject(1794, 5, 0, 0);
        Steps.ticks(x, 11);
        x.expect(2, 1002, 12);
        Steps.ticks(x, 1);
        Check.due("11 above", "", Steps.reports(x));
        x.expect(2, 1002, 0);
        Steps.ticks(x, 30);
        Check.due("no time", "", Steps.reports(x));
        x.expect(2, 1002, 5);
        Check.due("not before the tick", "", Steps.reports(x));
        Steps.ticks(x, 1);
        Check.due("more than its time", "4200", Steps.reports(x));
    }

    private static void transferIsLateAtUntil() {
        FieldNet x = new FieldNet();
        x.transfer(1, 0, false, 0);
        Steps.ticks(x, 4);
        Check.due("4 above", 1, x.client(0));
        Steps.ticks(x, 1);
        Check.due("5 above", "0 7 0 0 -1", Steps.client(x));
        FieldNet y = new FieldNet();
        y.transfer(1, 0, false, 0);
        Steps.ticks(y, 3);
        y.inject(1409, 2, 0, 6);
        Steps.ticks(y, 1);
        Check.due("an answer 4 above is in time", "0 0 6 0 -1", Steps.client(y));
        FieldNet z = new FieldNet();
        z.transfer(1, 0, false, 0);
        Steps.ticks(z, 4);
        z.inject(1409, 2, 0, 6);
        Steps.ticks(z, 1);
        Check.due("an answer 5 above is not", "0 7 0 0 -1", Steps.client(z));
    }

    private static void missedBeforeLate() {
        FieldNet x = new FieldNet();
        x.expect(1, 1001, 0);
        x.expect(4, 1004, 6);
        x.inject(1793, 0, 0, 0);
        x.inject(1796, 5, 0, 0);
        Steps.ticks(x, 6);
        Check.due("before", "1100", Steps.reports(x));
        Steps.ticks(x, 1);
        Check.due("missed, then late", "1100 4400 3107", Steps.reports(x));
    }

    private static void lateBeforeBoot() {
        FieldNet x = new FieldNet();
        x.expect(1, 1001, 0);
        x.expect(2, 1002, 0);
        x.inject(1793, 0, 0, 0);
        x.inject(1794, 0, 0, 0);
        Steps.ticks(x, 6);
        Check.due("the first is under way", "2 1", x.phase(1) + " " + x.phase(2));
        Steps.tickWithoutCarrying(x);
        Check.due("late, and the next begins in the same tick", "7 2", x.phase(1) + " " + x.phase(2));
        Check.due("request", "1538 2 0 0", Steps.pending(x));
        Check.due("client", "1 7 0 2 0", Steps.client(x));
    }

    private static void bootOnlyWhenIdle() {
        FieldNet x = new FieldNet();
        x.expect(1, 1001, 0);
        x.inject(1793, 0, 0, 0);
        Steps.ticks(x, 1);
        Check.due("waits", 1, x.phase(1));
        x.transfer(3, 0, false, 0);
        Steps.ticks(x, 3);
        Check.due("busy", 1, x.phase(1));
        x.inject(1411, 2, 0, 0);
        Steps.ticks(x, 1);
        Check.due("idle", 0, x.client(0));
        Check.due("but not in step 3", 1, x.phase(1));
        Steps.ticks(x, 1);
        Check.due("idle in step 3", 2, x.phase(1));
    }

    private static void threeSlots() {
        for (int frames = 0; frames <= 24; frames++) {
            FieldNet x = new FieldNet();
            Steps.fillTo(x, frames);
            int left = frames;
            for (int i = 0; i < 9; i++) {
                Check.due(left + " frames", Math.min(3, left), x.tick());
                left = Math.max(0, left - 3);
                Check.due("left", left, x.bus(-1, 0));
            }
        }
    }

    private static void disturbedSlots() {
        for (int k = 0; k <= 9; k++) {
            FieldNet x = new FieldNet();
            Steps.fillTo(x, 1);
            x.disturb(k);
            for (int i = 0; i < k / 3; i++) {
                Check.due("all three are disturbed", 0, x.tick());
                Check.due("errors", 3 * i + 3, x.bus(-1, 2));
                Check.due("the frame stays", "2047 0 0 0", Steps.pending(x));
            }
            Check.due("the first slot that is not", 1, x.tick());
            Check.due("errors", k, x.bus(-1, 2));
        }
    }

    private static void lowestIdOfAll() {
        FieldNet x = new FieldNet();
        int[] ids = {2047, 1, 0, 2046, 1024, 1023, 128, 127, 129};
        for (int id : ids) {
            x.inject(id, 0, 9, 0);
        }
        x.tick();
        Check.due("0, 1 and 127 are gone", "2047 2046 1024 1023 128 129", idsOf(x));
        x.tick();
        Check.due("128, 129 and 1023 are gone", "2047 2046 1024", idsOf(x));
        x.disturb(1);
        x.tick();
        Check.due("two more are gone", "2047", idsOf(x));
    }

    private static String idsOf(FieldNet x) {
        StringBuilder all = new StringBuilder();
        for (int i = 0; i < x.bus(-1, 0); i++) {
            all.append(i == 0 ? "" : " ").append(x.bus(i, 0));
        }
        return all.toString();
    }

    private static void putFirstOfEqualOnes() {
        FieldNet x = new FieldNet();
        for (int i = 0; i < 24; i++) {
            x.inject(129 + i % 2, i, 0, 0);
        }
        Steps.ticks(x, 8);
        Check.due("reports", "5100 5102 5104 5106 5108 5110 5112 5114 5116 5118 5120 5122"
                + " 5201 5203 5205 5207 5209 5211 5213 5215 5217 5219 5221 5223", Steps.reports(x));
    }

    private static void whatIsPutCanBeCarriedAtOnce() {
        FieldNet x = Steps.withNodesOn(1);
        x.transfer(1, 16, false, 0);
        Check.due("read, length, request", 3, x.tick());
        Check.due("the part waits for the next tick", "1409 4 8 1162104654", Steps.pending(x));
        FieldNet y = Steps.withNodesOn(1);
        y.inject(2046, 0, 0, 0);
        y.inject(2047, 0, 0, 0);
        y.transfer(1, 0, false, 0);
        Check.due("three", 3, y.tick());
        Check.due("the answer went before what was there already", "2047 0 0 0", Steps.pending(y));
    }
}
