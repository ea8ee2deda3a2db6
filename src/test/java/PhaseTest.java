/** Promise 15: phase, and the boot that moves it. */
public final class PhaseTest {
    public static void main(String[] args) {
        noSuchNode();
        phasesOfABoot();
        lowestNodeFirst();
        otherIdentity();
        refusedRead();
        everyCodeButZeroAndSeven();
        codeSevenOverTheBus();
        codeZeroOfARefusedWrite();
        silentNode();
        silentWrite();
        beatDuringTheBootBeginsAnew();
        beatOfAnotherDoesNot();
        beatDuringTheBootOfANodeNoLongerExpected();
        bootOverAndOver();
        strangeAnswers();
        beatOfZeroInEveryPhase();
        beatOfZeroOfANodeThatIsNotExpected();
        resetWhileTheBootReads();
        Check.end();
    }

    private static void noSuchNode() {
        FieldNet x = new FieldNet();
        for (int n : Steps.NO_NODES) {
            Check.due("phase(" + n + ")", -1, x.phase(n));
        }
    }

    private static void phasesOfABoot() {
        FieldNet x = new FieldNet();
        x.expect(3, 1003, 0);
        x.power(3, true);
        Check.due("beat is not carried yet", 0, x.phase(3));
        Check.due("beat", 1, x.tick());
        Check.due("waits", 1, x.phase(3));
        Check.due("client", "0 0 0 0 -1", Steps.client(x));
        Steps.carryOne(x);
        Check.due("reads", 2, x.phase(3));
        Check.due("client", "1 0 0 3 0", Steps.client(x));
        Steps.carryOne(x);
        Check.due("done", 4, x.phase(3));
        Check.due("command", "0 1 3 0", Steps.pending(x));
        Check.due("reports", "1300 2300", Steps.reports(x));
        Check.due("others", 0, x.phase(1) + x.phase(2) + x.phase(4));
    }

    private static void lowestNodeFirst() {
        FieldNet x = new FieldNet();
        for (int n = 4; n >= 1; n--) {
            x.expect(n, 1000 + n, 0);
            x.inject(1792 + n, 0, 0, 0);
        }
        Steps.ticks(x, 1);
        Check.due("phases", "1110", x.phase(1) + "" + x.phase(2) + x.phase(3) + x.phase(4));
        Steps.ticks(x, 1);
        Check.due("the lowest", "2111", x.phase(1) + "" + x.phase(2) + x.phase(3) + x.phase(4));
        Steps.ticks(x, 4);
        Check.due("one at a time", "2111", x.phase(1) + "" + x.phase(2) + x.phase(3) + x.phase(4));
        Steps.ticks(x, 1);
        Check.due("the next in the same tick", "7211", x.phase(1) + "" + x.phase(2) + x.phase(3) + x.phase(4));
        x.inject(1793, 0, 0, 0);
        Steps.ticks(x, 1);
        Check.due("waits again", "1211", x.phase(1) + "" + x.phase(2) + x.phase(3) + x.phase(4));
        Steps.ticks(x, 4);
        Check.due("before the higher ones", "2711", x.phase(1) + "" + x.phase(2) + x.phase(3) + x.phase(4));
    }

    private static void otherIdentity() {
        FieldNet x = new FieldNet();
        x.expect(2, 1003, 0);
        x.configure(2, 12, 1);
        x.power(2, true);
        Steps.ticks(x, 4);
        Check.due("phase", 5, x.phase(2));
        Check.due("reports", "1200 3205", Steps.reports(x));
        Check.due("nothing is written", 0, x.object(2, 12));
        Check.due("client", "0 0 1002 0 -1", Steps.client(x));
        Check.due("state", Steps.PREPARED, x.state(2));
        Steps.ticks(x, 20);
        Check.due("and stays", 5, x.phase(2));
    }

    private static FieldNet bootUnderWay() {
        FieldNet x = new FieldNet();
        x.expect(2, 1002, 0);
        x.configure(2, 12, 1);
        x.inject(1794, 0, 0, 0);
        Steps.ticks(x, 2);
        Check.due("phase", 2, x.phase(2));
        return x;
    }

    private static void refusedRead() {
        FieldNet x = bootUnderWay();
        x.inject(1410, 9, 0, 3);
        Steps.ticks(x, 1);
        Check.due("phase", 6, x.phase(2));
        Check.due("reports", "1200 3206", Steps.reports(x));
        Check.due("client", "0 3 0 0 -1", Steps.client(x));
    }

    private static void everyCodeButZeroAndSeven() {
        for (int code : new int[] {Integer.MIN_VALUE, -1, 1, 2, 3, 4, 5, 6, 8, 9, 1000, Integer.MAX_VALUE}) {
            FieldNet x = bootUnderWay();
            x.inject(1410, 9, 0, code);
            Steps.ticks(x, 1);
            Check.due("code " + code + " of the read", 6, x.phase(2));
            FieldNet y = bootUnderWay();
            y.inject(1410, 2, 0, 1002);
            Steps.ticks(y, 1);
            y.inject(1410, 9, 12, code);
            Steps.ticks(y, 1);
            Check.due("code " + code + " of a write", 6, y.phase(2));
            Check.due("reports", "1200 3206", Steps.reports(y));
        }
    }

    private static void codeSevenOverTheBus() {
        FieldNet x = bootUnderWay();
        x.inject(1410, 9, 0, 7);
        Steps.ticks(x, 1);
        Check.due("of the read", 7, x.phase(2));
        Check.due("reports", "1200 3207", Steps.reports(x));
        FieldNet y = bootUnderWay();
        y.inject(1410, 2, 0, 1002);
        Steps.ticks(y, 1);
        y.inject(1410, 9, 12, 7);
        Steps.ticks(y, 1);
        Check.due("of a write", 7, y.phase(2));
    }

    private static void codeZeroOfARefusedWrite() {
        FieldNet x = bootUnderWay();
        x.inject(1410, 2, 0, 1002);
        Steps.ticks(x, 1);
        x.inject(1410, 9, 12, 0);
        Steps.ticks(x, 1);
        Check.due("the boot goes on", 4, x.phase(2));
    }

    private static void silentNode() {
        FieldNet x = bootUnderWay();
        Steps.ticks(x, 4);
        Check.due("phase", 2, x.phase(2));
        Steps.ticks(x, 1);
        Check.due("phase", 7, x.phase(2));
        Check.due("reports", "1200 3207", Steps.reports(x));
        Check.due("client", "0 7 0 0 -1", Steps.client(x));
        Steps.ticks(x, 20);
        Check.due("no second try", "1200 3207", Steps.reports(x));
    }

    private static void silentWrite() {
        FieldNet x = bootUnderWay();
        x.inject(1410, 2, 0, 1002);
        Steps.ticks(x, 1);
        Check.due("phase", 3, x.phase(2));
        Steps.ticks(x, 4);
        Check.due("phase", 3, x.phase(2));
        Steps.ticks(x, 1);
        Check.due("phase", 7, x.phase(2));
        Check.due("reports", "1200 3207", Steps.reports(x));
    }

    private static void beatDuringTheBootBeginsAnew() {
        FieldNet x = bootUnderWay();
        x.inject(1794, 0, 0, 0);
        Steps.ticks(x, 1);
        Check.due("phase", 1, x.phase(2));
        Check.due("client is idle, code and result stay", "0 0 0 0 -1", Steps.client(x));
        x.inject(1410, 2, 0, 1002);
        x.disturb(1);
        Steps.ticks(x, 1);
        Check.due("the new transfer", 3, x.phase(2));
        Check.due("client", "1 0 1002 2 12", Steps.client(x));
        x.inject(1794, 0, 0, 0);
        Steps.ticks(x, 1);
        Check.due("also during the writes", 1, x.phase(2));
        Check.due("client", "0 0 1002 0 -1", Steps.client(x));
        Check.due("reports", "1200 1200 1200", Steps.reports(x));
        Check.accepted("it is free for others", x.transfer(3, 0, false, 0));
        Steps.ticks(x, 4);
        Check.due("so the boot waits", 1, x.phase(2));
    }

    private static void beatOfAnotherDoesNot() {
        FieldNet x = bootUnderWay();
        x.expect(3, 1003, 0);
        x.inject(1795, 0, 0, 0);
        x.inject(1794, 127, 0, 0);
        Steps.ticks(x, 1);
        Check.due("phase", 2, x.phase(2));
        Check.due("phase of the other", 1, x.phase(3));
        Check.due("client", "1 0 0 2 0", Steps.client(x));
    }

    private static void beatDuringTheBootOfANodeNoLongerExpected() {
        FieldNet x = bootUnderWay();
        x.expect(2, -1, 0);
        x.inject(1794, 0, 0, 0);
        Steps.ticks(x, 1);
        Check.due("phase stays", 2, x.phase(2));
        Check.due("client", "1 0 0 2 0", Steps.client(x));
        Check.due("reports", "1200 1200", Steps.reports(x));
    }

    private static void bootOverAndOver() {
        FieldNet x = new FieldNet();
        x.expect(1, 1001, 0);
        x.power(1, true);
        Steps.ticks(x, 3);
        Check.due("first", 4, x.phase(1));
        Steps.command(x, 129, 1);
        Check.due("waits", 1, x.phase(1));
        Steps.ticks(x, 3);
        Check.due("second", 4, x.phase(1));
        Check.due("running", Steps.RUNNING, x.state(1));
        x.power(1, false);
        Steps.ticks(x, 3);
        Check.due("off changes no phase", 4, x.phase(1));
        Check.due("reports", "1100 2100 1100 2100", Steps.reports(x));
    }

    private static void strangeAnswers() {
        FieldNet x = new FieldNet();
        x.expect(1, 0, 0);
        x.inject(1793, 0, 0, 0);
        Steps.ticks(x, 2);
        x.inject(1409, 9, 0, 0);
        Steps.ticks(x, 1);
        Check.due("code 0 has result 0, as expected", 4, x.phase(1));
        FieldNet y = new FieldNet();
        y.expect(1, 2, 0);
        y.inject(1793, 0, 0, 0);
        Steps.ticks(y, 2);
        y.inject(1409, 3, 0, 2);
        Steps.ticks(y, 1);
        Check.due("a text for an identity", 2, y.phase(1));
        y.inject(1409, 4, 4, 5);
        Steps.ticks(y, 1);
        Check.due("has its number of characters as its result", 4, y.phase(1));
    }

    /** Node 2 at the master in this phase, with the client idle but in the phases 2 and 3. */
    private static FieldNet inPhase(int phase) {
        FieldNet x = new FieldNet();
        x.expect(2, 1002, 0);
        if (phase == 3 || phase == 6) {
            x.configure(2, 12, 1);
        }
        if (phase > 0) {
            x.inject(1794, 0, 0, 0);
            Steps.ticks(x, 1);
        }
        if (phase > 1) {
            Steps.ticks(x, 1);
        }
        if (phase > 2 && phase < 7) {
            x.inject(1410, 2, 0, phase == 5 ? 1 : 1002);
            Steps.ticks(x, 1);
        }
        if (phase == 6) {
            x.inject(1410, 9, 12, 3);
            Steps.ticks(x, 1);
        }
        if (phase == 7) {
            Steps.ticks(x, 5);
        }
        Check.due("phase", phase, x.phase(2));
        Check.due("client", phase == 2 || phase == 3 ? 1 : 0, x.client(0));
        return x;
    }

    private static void beatOfZeroInEveryPhase() {
        for (int phase = 0; phase <= 7; phase++) {
            FieldNet x = inPhase(phase);
            int reports = x.report(-1);
            int code = x.client(1);
            int result = x.client(2);
            if (phase == 1) {
                x.transfer(3, 0, false, 0);
            }
            x.inject(1794, 0, 0, 0);
            Steps.ticks(x, 1);
            Check.due("from phase " + phase, 1, x.phase(2));
            Check.due("report", 1200, x.report(reports));
            Check.due("no other report", reports + 1, x.report(-1));
            Check.due("busy only with what is no boot", phase == 1 ? 1 : 0, x.client(0));
            Check.due("code stays", code, x.client(1));
            Check.due("result stays", result, x.client(2));
        }
    }

    private static void beatOfZeroOfANodeThatIsNotExpected() {
        for (int phase = 0; phase <= 7; phase++) {
            if (phase != 1) {
                FieldNet x = inPhase(phase);
                x.expect(2, -1, 0);
                int busy = x.client(0);
                int reports = x.report(-1);
                x.inject(1794, 0, 0, 0);
                Steps.ticks(x, 1);
                Check.due("phase stays", phase, x.phase(2));
                Check.due("client stays", busy, x.client(0));
                Check.due("report", 1200, x.report(reports));
            }
        }
        FieldNet x = new FieldNet();
        x.expect(2, -1, 5);
        x.inject(1794, 5, 0, 0);
        Steps.ticks(x, 2);
        x.inject(1794, 0, 0, 0);
        Steps.ticks(x, 20);
        Check.due("nothing is heard of it", "1200", Steps.reports(x));
    }

    private static void resetWhileTheBootReads() {
        FieldNet x = new FieldNet();
        x.expect(1, 1001, 0);
        x.power(1, true);
        Steps.ticks(x, 1);
        x.inject(0, 129, 1, 0);
        Check.due("command, read, answer", 3, x.tick());
        Check.due("the beat, and the command of the boot", "1793 0 0 0, 0 1 1 0", Steps.pending(x));
        Check.due("phase", 4, x.phase(1));
        Check.due("both", 2, x.tick());
        Check.due("running", Steps.RUNNING, x.state(1));
        Check.due("and booted anew", 1, x.phase(1));
    }
}
