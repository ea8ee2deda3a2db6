/** Promise 4: input, and the samples that a change calls forth. */
public final class InputTest {
    public static void main(String[] args) {
        becomesTheValue();
        wrongInputs();
        sendsWhenChanged();
        sendsOnlyWhatTheMapNames();
        sendsOnlyWhenRunningWithTypeZero();
        pauseHoldsBack();
        pauseZeroNeverHoldsBack();
        heldBackWaitsForRunning();
        heldBackIsGoneWhenSent();
        pauseCountsFromALostSampleToo();
        sampleOfASyncCountsForThePause();
        firstSampleNeedsNoPause();
        changeBackIsAChange();
        otherWritesKeepWhatIsHeldBack();
        unnamedInputHoldsNothingBack();
        sameValueHoldsNothingBack();
        sameValueKeepsWhatIsHeldBack();
        Check.end();
    }

    private static FieldNet sender(int map, int pause) {
        FieldNet x = Steps.withNodesOn(1);
        Steps.write(x, 1, 6, map);
        Steps.write(x, 1, 5, pause);
        Steps.run(x, 1);
        return x;
    }

    private static void becomesTheValue() {
        FieldNet x = Steps.withNodesOn(2);
        for (int i = 8; i <= 11; i++) {
            Check.accepted("input " + i, x.input(2, i, -5 * i));
            Check.due("value " + i, -5 * i, x.object(2, i));
            Check.accepted("the same again", x.input(2, i, -5 * i));
        }
        Check.accepted("lowest", x.input(2, 8, Integer.MIN_VALUE));
        Check.accepted("highest", x.input(2, 11, Integer.MAX_VALUE));
        Check.due("lowest", Integer.MIN_VALUE, x.object(2, 8));
        Check.due("highest", Integer.MAX_VALUE, x.object(2, 11));
        Check.due("nothing is sent", "", Steps.pending(x));
        Steps.command(x, 2, 2);
        Check.accepted("stopped", x.input(2, 9, 3));
        Check.due("value when stopped", 3, x.object(2, 9));
    }

    private static void wrongInputs() {
        FieldNet x = Steps.withNodesOn(1);
        for (int n : Steps.NO_NODES) {
            Check.refused("node " + n, x.input(n, 8, 1));
        }
        Check.refused("off", x.input(2, 8, 1));
        Check.due("off", 0, x.object(2, 8));
        for (int i : new int[] {7, 12, 0, 16, -1, Integer.MIN_VALUE, Integer.MAX_VALUE}) {
            Check.refused("input " + i, x.input(1, i, 1));
        }
        Check.due("objects", "1001 0 0 0 0 0 0 0 0 0 0 0 0 0 0 0 11", Steps.objects(x, 1));
    }

    private static void sendsWhenChanged() {
        FieldNet x = sender(1009, 0);
        Check.accepted("not changed", x.input(1, 10, 0));
        Check.due("not changed", "", Steps.pending(x));
        x.input(1, 9, 6);
        Check.due("x then y", "385 0 0 6", Steps.pending(x));
        x.input(1, 10, 5);
        Check.due("x then y", "385 0 0 6, 385 0 5 6", Steps.pending(x));
        x.input(1, 10, 5);
        Check.due("not changed", 2, x.bus(-1, 0));
    }

    private static void sendsOnlyWhatTheMapNames() {
        FieldNet x = sender(1111, 0);
        x.input(1, 8, 1);
        x.input(1, 9, 1);
        x.input(1, 10, 1);
        Check.due("not named", "", Steps.pending(x));
        x.input(1, 11, 7);
        Check.due("named", "385 0 7 7", Steps.pending(x));
        FieldNet without = sender(0, 0);
        for (int i = 8; i <= 11; i++) {
            without.input(1, i, 1);
        }
        Check.due("no map", "", Steps.pending(without));
    }

    private static void sendsOnlyWhenRunningWithTypeZero() {
        FieldNet x = sender(808, 0);
        Steps.command(x, 128, 1);
        x.input(1, 8, 1);
        Check.due("prepared", "", Steps.pending(x));
        Steps.command(x, 2, 1);
        x.input(1, 8, 2);
        Check.due("stopped", "", Steps.pending(x));
        Steps.command(x, 128, 1);
        Steps.write(x, 1, 4, 1);
        Steps.run(x, 1);
        x.input(1, 8, 3);
        Check.due("type 1", "", Steps.pending(x));
        Steps.ticks(x, 3);
        Check.due("nothing was held back", "", Steps.pending(x));
        Steps.command(x, 128, 1);
        Steps.write(x, 1, 4, 0);
        Steps.run(x, 1);
        Check.due("nor now", 0, x.tick());
    }

    private static void pauseHoldsBack() {
        FieldNet x = sender(809, 3);
        x.input(1, 8, 1);
        Check.due("the first goes at once", "385 0 1 0", Steps.pending(x));
        Check.due("carried", 1, x.tick());
        x.input(1, 8, 2);
        x.input(1, 9, 3);
        Check.due("held back", "", Steps.pending(x));
        Check.due("1 above: held back", 0, x.tick());
        Check.due("3 above: sent, once, as it is then", 1, x.tick());
        Check.due("carried", "", Steps.pending(x));
        Steps.ticks(x, 2);
        x.input(1, 8, 4);
        Check.due("2 above: held back", "", Steps.pending(x));
        x.input(1, 8, 2);
        Check.due("no news, yet held back", "", Steps.pending(x));
        x.disturb(3);
        Check.due("disturbed", 0, x.tick());
        Check.due("3 above: sent", "385 0 2 3", Steps.pending(x));
        Steps.ticks(x, 2);
        x.input(1, 8, 5);
        Check.due("2 above: held back", "", Steps.pending(x));
        Steps.ticks(x, 1);
        Steps.ticks(x, 3);
        x.input(1, 8, 6);
        Check.due("3 above: at once", "385 0 6 3", Steps.pending(x));
    }

    private static void pauseZeroNeverHoldsBack() {
        FieldNet x = sender(808, 0);
        for (int v = 1; v <= 4; v++) {
            x.input(1, 8, v);
            Check.due("at once", v, x.bus(-1, 0));
        }
    }

    private static void heldBackWaitsForRunning() {
        FieldNet x = sender(808, 2);
        x.input(1, 8, 1);
        x.input(1, 8, 2);
        Check.accepted("stop", x.inject(0, 2, 1, 0));
        Check.due("command and the first", 2, x.tick());
        for (int i = 0; i < 5; i++) {
            Check.due("stopped", 0, x.tick());
        }
        Check.accepted("run", x.inject(0, 1, 1, 0));
        Check.due("the command", 1, x.tick());
        Check.due("now it sends", 1, x.tick());
        Check.due("once", 0, x.tick());
    }

    private static void heldBackIsGoneWhenSent() {
        FieldNet x = sender(808, 4);
        x.input(1, 8, 1);
        x.input(1, 8, 2);
        Steps.drain(x);
        Steps.command(x, 128, 1);
        Steps.write(x, 1, 4, 1);
        Steps.run(x, 1);
        Steps.ticks(x, 5);
        x.inject(128, 0, 0, 0);
        Check.due("sync and sample", 2, x.tick());
        Steps.command(x, 128, 1);
        Steps.write(x, 1, 4, 0);
        Steps.run(x, 1);
        for (int i = 0; i < 10; i++) {
            Check.due("none is held back", 0, x.tick());
        }
    }

    private static void pauseCountsFromALostSampleToo() {
        FieldNet x = sender(808, 2);
        for (int i = 0; i < 24; i++) {
            x.inject(0, 0, 9, 0);
        }
        x.input(1, 8, 1);
        Check.due("lost", 1, x.bus(-1, 1));
        x.input(1, 8, 2);
        Check.due("held back, not lost", 1, x.bus(-1, 1));
        Steps.ticks(x, 1);
        Check.due("not yet", 21, x.bus(-1, 0));
        Steps.ticks(x, 1);
        Check.due("sent", 19, x.bus(-1, 0));
        Check.due("sample", 385, x.bus(18, 0));
    }

    private static void sampleOfASyncCountsForThePause() {
        FieldNet x = Steps.withNodesOn(1);
        Steps.write(x, 1, 6, 808);
        Steps.write(x, 1, 5, 9);
        Steps.write(x, 1, 4, 1);
        Steps.run(x, 1);
        x.inject(128, 0, 0, 0);
        Check.due("sync and sample", 2, x.tick());
        x.inject(128, 0, 0, 0);
        Check.due("no pause holds back the sample of a sync", 2, x.tick());
        Steps.command(x, 128, 1);
        Steps.write(x, 1, 4, 0);
        Steps.run(x, 1);
        x.input(1, 8, 5);
        Check.due("3 above: held back", "", Steps.pending(x));
        for (int i = 4; i <= 8; i++) {
            Check.due(i + " above", 0, x.tick());
        }
        Check.due("9 above", 1, x.tick());
    }

    private static void firstSampleNeedsNoPause() {
        for (int pause = 0; pause <= 20; pause++) {
            FieldNet x = sender(911, pause);
            x.input(1, 9, -1);
            Check.due("pause " + pause, "385 0 -1 0", Steps.pending(x));
            x.input(1, 11, -2);
            Check.due("in the same tick", pause == 0 ? 2 : 1, x.bus(-1, 0));
        }
    }

    private static void changeBackIsAChange() {
        FieldNet x = sender(808, 0);
        x.input(1, 8, 1);
        x.input(1, 8, 0);
        x.input(1, 8, 0);
        Check.due("two changes", "385 0 1 1, 385 0 0 0", Steps.pending(x));
        x.input(1, 8, Integer.MIN_VALUE);
        Check.due("any value", 3, x.bus(-1, 0));
        x.input(1, 8, Integer.MIN_VALUE);
        Check.due("no change", 3, x.bus(-1, 0));
    }

    private static void otherWritesKeepWhatIsHeldBack() {
        FieldNet x = sender(809, 15);
        x.input(1, 8, 1);
        x.input(1, 9, 2);
        Check.due("the first", 1, x.tick());
        Steps.write(x, 1, 5, 14);
        Steps.command(x, 2, 1);
        Steps.command(x, 128, 1);
        for (int k : new int[] {4, 7, 12}) {
            Steps.write(x, 1, k, 0);
        }
        Steps.write(x, 1, 6, 909);
        Steps.run(x, 1);
        for (int i = 10; i <= 13; i++) {
            Check.due(i + " above", 0, x.tick());
        }
        Steps.tickWithoutCarrying(x);
        Check.due("14 above", "385 0 2 2", Steps.pending(x));
    }

    private static void unnamedInputHoldsNothingBack() {
        FieldNet x = sender(809, 5);
        x.input(1, 8, 1);
        x.input(1, 10, 2);
        x.input(1, 11, 3);
        Check.due("the first", 1, x.tick());
        for (int i = 0; i < 25; i++) {
            Check.due("none is held back", 0, x.tick());
        }
    }

    private static void sameValueHoldsNothingBack() {
        FieldNet x = sender(809, 5);
        x.input(1, 8, 1);
        x.input(1, 8, 1);
        x.input(1, 9, 0);
        Check.due("the first", 1, x.tick());
        for (int i = 0; i < 25; i++) {
            Check.due("none is held back", 0, x.tick());
        }
    }

    private static void sameValueKeepsWhatIsHeldBack() {
        FieldNet x = sender(809, 3);
        x.input(1, 8, 1);
        x.input(1, 8, 2);
        x.input(1, 8, 2);
        x.input(1, 10, 2);
        Check.due("the first", 1, x.tick());
        Check.due("2 above", 0, x.tick());
        Check.due("3 above", 1, x.tick());
    }
}
