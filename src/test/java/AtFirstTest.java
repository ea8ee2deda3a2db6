/** Each "at first" of the document: what an object shows, and how it behaves, before anything was said to it. */
public final class AtFirstTest {
    public static void main(String[] args) {
        nowIsZero();
        nodesAreOff();
        objectsAreZeroButTheIdentity();
        nothingIsPendingLostOrDisturbed();
        nobodyIsExpected();
        timesAreZero();
        listsAreEmpty();
        phasesAreZero();
        nobodyWasHeard();
        clientIsIdle();
        codeAndResultAreZero();
        noTextHasCome();
        nothingIsReported();
        noSyncPeriodIsSet();
        Check.end();
    }

    private static void nowIsZero() {
        FieldNet x = new FieldNet();
        Check.due("NOW", 0, x.bus(-1, 3));
        x.tick();
        Check.due("NOW after a tick", 1, x.bus(-1, 3));
    }

    private static void nodesAreOff() {
        for (int n = 1; n <= 4; n++) {
            FieldNet x = new FieldNet();
            Check.due("state", Steps.OFF, x.state(n));
            Check.refused("off already", x.power(n, false));
            Check.refused("input of a node that is off", x.input(n, 8, 1));
            Check.refused("failure of a node that is off", x.fail(n, 1));
            Check.due("no answer", "none", Steps.answerTo(x, n, 2, 0, 0));
            Check.accepted("identity of a node that is off", x.identify(n, 1));
        }
    }

    private static void objectsAreZeroButTheIdentity() {
        FieldNet x = new FieldNet();
        for (int n = 1; n <= 4; n++) {
            Check.due("identity", 1000 + n, x.object(n, 0));
            for (int k = 1; k <= 15; k++) {
                Check.due("object " + k, 0, x.object(n, k));
            }
        }
    }

    private static void nothingIsPendingLostOrDisturbed() {
        FieldNet x = new FieldNet();
        Check.due("pending", 0, x.bus(-1, 0));
        Check.due("lost", 0, x.bus(-1, 1));
        Check.due("errors", 0, x.bus(-1, 2));
        Check.due("no first frame", -1, x.bus(0, 0));
        x.inject(2047, 0, 0, 0);
        Check.due("the first slot is not disturbed", 1, x.tick());
    }

    private static void nobodyIsExpected() {
        FieldNet x = new FieldNet();
        for (int n = 1; n <= 4; n++) {
            Check.refused("configure " + n, x.configure(n, 12, 1));
            x.power(n, true);
        }
        Steps.ticks(x, 8);
        for (int n = 1; n <= 4; n++) {
            Check.due("no boot of " + n, 0, x.phase(n));
        }
        Check.due("reports", "1100 1200 1300 1400", Steps.reports(x));
    }

    private static void timesAreZero() {
        FieldNet x = new FieldNet();
        for (int n = 1; n <= 4; n++) {
            x.inject(1792 + n, 5, 0, 0);
        }
        Steps.ticks(x, 100);
        Check.due("none is missed", "", Steps.reports(x));
    }

    private static void listsAreEmpty() {
        for (int n = 1; n <= 4; n++) {
            FieldNet x = new FieldNet();
            x.expect(n, 1000 + n, 0);
            x.power(n, true);
            Steps.ticks(x, 1);
            Check.due("read, answer, command", 3, x.tick());
            Check.due("no write came between", 4, x.phase(n));
            for (int i = 0; i < 3; i++) {
                Check.accepted("room for three", x.configure(n, 12, i));
            }
        }
    }

    private static void phasesAreZero() {
        FieldNet x = new FieldNet();
        for (int n = 1; n <= 4; n++) {
            Check.due("phase", 0, x.phase(n));
            x.expect(n, 1000 + n, 50);
            Check.due("phase of an expected node", 0, x.phase(n));
        }
        Check.due("none waits for its boot", 0, x.tick());
    }

    private static void nobodyWasHeard() {
        FieldNet x = new FieldNet();
        for (int n = 1; n <= 4; n++) {
            x.expect(n, 1000 + n, 1);
        }
        Steps.ticks(x, 60);
        Check.due("none is missed", "", Steps.reports(x));
    }

    private static void clientIsIdle() {
        FieldNet x = new FieldNet();
        Check.due("not busy", 0, x.client(0));
        Check.due("no node", 0, x.client(3));
        Check.due("no object", -1, x.client(4));
        Steps.ticks(x, 10);
        Check.due("no time-out", "0 0 0 0 -1", Steps.client(x));
        Check.accepted("it can begin", x.transfer(1, 0, false, 0));
    }

    private static void codeAndResultAreZero() {
        FieldNet x = new FieldNet();
        Check.due("CODE", 0, x.client(1));
        Check.due("RESULT", 0, x.client(2));
    }

    private static void noTextHasCome() {
        FieldNet x = new FieldNet();
        for (int i = -1; i <= 12; i++) {
            Check.due("text(" + i + ")", -1, x.text(i));
        }
    }

    private static void nothingIsReported() {
        FieldNet x = new FieldNet();
        Check.due("how many", 0, x.report(-1));
        Check.due("the first", -2, x.report(0));
    }

    private static void noSyncPeriodIsSet() {
        FieldNet x = new FieldNet();
        for (int now = 1; now <= 60; now++) {
            Check.due("NOW " + now, 0, x.tick());
        }
    }
}
