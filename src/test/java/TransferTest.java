/** Promise 8: transfer. */
public final class TransferTest {
    public static void main(String[] args) {
        putsARequest();
        wrongInputs();
        onlyWhenIdle();
        codesOfRefusal();
        codeAndResultStayTillItIsOver();
        endsLate();
        lostRequestEndsLate();
        answersOfOtherNodesArePassedOver();
        answersForOtherObjectsArePassedOver();
        readAnswersArePassedOverByAWrite();
        writeAnswersArePassedOverByARead();
        partsWithoutALengthArePassedOver();
        unknownAnswersArePassedOver();
        idleClientPassesOverAll();
        strangeCodes();
        bootWaitsForIt();
        beatDoesNotEndIt();
        bootHoldsTheClient();
        afterABootItIsTheCallersAgain();
        lateHasNoResult();
        lateLeavesItsRequest();
        lateAnswerIsPassedOver();
        Check.end();
    }

    private static void putsARequest() {
        for (int n = 1; n <= 4; n++) {
            FieldNet x = new FieldNet();
            Check.accepted("write to a node that is off", x.transfer(n, 31, true, -8));
            Check.due("request", (1536 + n) + " 1 31 -8", Steps.pending(x));
            Check.due("client", "1 0 0 " + n + " 31", Steps.client(x));
            FieldNet y = new FieldNet();
            Check.accepted("read", y.transfer(n, 0, false, 99));
            Check.due("request", (1536 + n) + " 2 0 0", Steps.pending(y));
            Check.due("client", "1 0 0 " + n + " 0", Steps.client(y));
        }
    }

    private static void wrongInputs() {
        FieldNet x = new FieldNet();
        for (int n : Steps.NO_NODES) {
            Check.refused("node " + n, x.transfer(n, 2, false, 0));
        }
        for (int k : new int[] {-1, 32, Integer.MIN_VALUE, Integer.MAX_VALUE}) {
            Check.refused("object " + k, x.transfer(1, k, true, 0));
        }
        Check.due("client", "0 0 0 0 -1", Steps.client(x));
        Check.due("pending", "", Steps.pending(x));
    }

    private static void onlyWhenIdle() {
        FieldNet x = Steps.withNodesOn(1, 2);
        x.transfer(1, 12, true, 5);
        Check.refused("busy", x.transfer(1, 12, true, 6));
        Check.refused("busy, another node", x.transfer(2, 12, true, 6));
        Check.due("client", "1 0 0 1 12", Steps.client(x));
        Check.due("carried", 2, x.tick());
        Check.due("over", "0 0 0 0 -1", Steps.client(x));
        Check.due("written", 5, x.object(1, 12));
        Check.accepted("idle", x.transfer(2, 0, false, 0));
        Check.due("carried", 2, x.tick());
        Check.due("over", "0 0 1002 0 -1", Steps.client(x));
    }

    private static void codesOfRefusal() {
        FieldNet x = Steps.withNodesOn(1);
        x.transfer(1, 17, false, 0);
        Steps.ticks(x, 1);
        Check.due("no object", "0 1 0 0 -1", Steps.client(x));
        x.transfer(1, 16, true, 0);
        Steps.ticks(x, 1);
        Check.due("not writable", "0 2 0 0 -1", Steps.client(x));
        x.transfer(1, 4, true, 5);
        Steps.ticks(x, 1);
        Check.due("bad value", "0 3 0 0 -1", Steps.client(x));
        Steps.run(x, 1);
        x.transfer(1, 4, true, 4);
        Steps.ticks(x, 1);
        Check.due("not while running", "0 4 0 0 -1", Steps.client(x));
    }

    private static void codeAndResultStayTillItIsOver() {
        FieldNet x = Steps.withNodesOn(1);
        x.transfer(1, 0, false, 0);
        Steps.ticks(x, 1);
        Check.due("read", "0 0 1001 0 -1", Steps.client(x));
        x.transfer(1, 20, false, 0);
        Check.due("under way", "1 0 1001 1 20", Steps.client(x));
        Steps.ticks(x, 1);
        Check.due("over", "0 1 0 0 -1", Steps.client(x));
        x.transfer(1, 0, false, 0);
        Check.due("under way", "1 1 0 1 0", Steps.client(x));
    }

    private static void endsLate() {
        FieldNet x = new FieldNet();
        Steps.ticks(x, 3);
        x.transfer(1, 0, false, 0);
        for (int i = 1; i <= 4; i++) {
            x.tick();
            Check.due("tick " + i, "1 0 0 1 0", Steps.client(x));
        }
        x.tick();
        Check.due("tick 5", "0 7 0 0 -1", Steps.client(x));
        Check.due("no report", "", Steps.reports(x));
        Check.due("no phase", 0, x.phase(1));
        FieldNet stopped = Steps.withNodesOn(1);
        Steps.command(stopped, 2, 1);
        stopped.transfer(1, 0, false, 0);
        Steps.ticks(stopped, 5);
        Check.due("a stopped node does not answer", "0 7 0 0 -1", Steps.client(stopped));
    }

    private static void lostRequestEndsLate() {
        FieldNet x = Steps.withNodesOn(1);
        for (int i = 0; i < 24; i++) {
            x.inject(2000, 0, 0, 0);
        }
        Check.accepted("with a full bus", x.transfer(1, 0, false, 0));
        Check.due("lost", 1, x.bus(-1, 1));
        Steps.ticks(x, 4);
        Check.due("busy", "1 0 0 1 0", Steps.client(x));
        Steps.ticks(x, 1);
        Check.due("late", "0 7 0 0 -1", Steps.client(x));
    }

    private static void passedOver(boolean write, int id, int a, int b, int c) {
        FieldNet x = new FieldNet();
        x.transfer(2, 5, write, 0);
        Steps.ticks(x, 1);
        x.inject(id, a, b, c);
        Check.due("the answer alone", 1, x.tick());
        String what = id + " " + a + " " + b + " " + c;
        Check.due("passed over: " + what, "1 0 0 2 5", Steps.client(x));
        Check.due("nothing is put: " + what, "", Steps.pending(x));
        Steps.ticks(x, 3);
        Check.due("until stays: " + what, "0 7 0 0 -1", Steps.client(x));
        Check.due("no text: " + what, -1, x.text(0));
    }

    private static void answersOfOtherNodesArePassedOver() {
        passedOver(true, 1409, 1, 5, 0);
        passedOver(true, 1411, 9, 5, 3);
        passedOver(true, 1408, 9, 5, 3);
        passedOver(false, 1412, 2, 5, 8);
        passedOver(false, 1411, 3, 5, 8);
    }

    private static void answersForOtherObjectsArePassedOver() {
        passedOver(true, 1410, 1, 4, 0);
        passedOver(true, 1410, 9, 6, 3);
        passedOver(false, 1410, 2, 4, 8);
        passedOver(false, 1410, 2, -1, 8);
        passedOver(false, 1410, 3, 16, 8);
        passedOver(false, 1410, 9, 16, 3);
    }

    private static void readAnswersArePassedOverByAWrite() {
        passedOver(true, 1410, 2, 5, 8);
        passedOver(true, 1410, 3, 5, 8);
        passedOver(true, 1410, 4, 8, 8);
    }

    private static void writeAnswersArePassedOverByARead() {
        passedOver(false, 1410, 1, 5, 0);
    }

    private static void partsWithoutALengthArePassedOver() {
        passedOver(false, 1410, 4, 8, 8);
        passedOver(false, 1410, 4, 5, 8);
        passedOver(false, 1410, 4, 0, 8);
        passedOver(false, 1410, 4, -2, 8);
    }

    private static void unknownAnswersArePassedOver() {
        for (int a : new int[] {Integer.MIN_VALUE, -1, 0, 5, 6, 7, 8, 10, Integer.MAX_VALUE}) {
            passedOver(false, 1410, a, 5, 3);
            passedOver(true, 1410, a, 5, 3);
        }
    }

    private static void idleClientPassesOverAll() {
        FieldNet x = new FieldNet();
        for (int a : new int[] {1, 2, 3, 4, 9}) {
            x.inject(1409, a, 0, 5);
            x.inject(1408, a, -1, 5);
            Check.due("carried", 2, x.tick());
            Check.due("answer " + a, "0 0 0 0 -1", Steps.client(x));
            Check.due("nothing is put", "", Steps.pending(x));
            Check.due("no text", "", Steps.text(x));
        }
    }

    private static void strangeCodes() {
        for (int code : new int[] {0, 7, -1, 1000, Integer.MIN_VALUE}) {
            FieldNet x = new FieldNet();
            x.transfer(2, 5, code == 7, 0);
            x.inject(1410, 9, 5, code);
            Steps.ticks(x, 1);
            Check.due("code", "0 " + code + " 0 0 -1", Steps.client(x));
        }
        FieldNet x = new FieldNet();
        x.transfer(2, 5, false, 0);
        x.inject(1410, 2, 5, Integer.MIN_VALUE);
        Steps.ticks(x, 1);
        Check.due("result", "0 0 -2147483648 0 -1", Steps.client(x));
        x.transfer(2, 31, true, 0);
        x.inject(1410, 1, 31, 77);
        Steps.ticks(x, 1);
        Check.due("a write has no result", "0 0 0 0 -1", Steps.client(x));
    }

    private static void bootWaitsForIt() {
        FieldNet x = new FieldNet();
        x.expect(1, 1001, 0);
        x.power(1, true);
        x.transfer(4, 0, false, 0);
        Steps.ticks(x, 4);
        Check.due("waits", 1, x.phase(1));
        Steps.ticks(x, 1);
        Check.due("late, and the boot is done in the same tick", 4, x.phase(1));
        Check.due("client", "0 0 1001 0 -1", Steps.client(x));
    }

    private static void beatDoesNotEndIt() {
        FieldNet x = new FieldNet();
        x.expect(1, 1001, 0);
        x.transfer(1, 0, false, 0);
        Steps.ticks(x, 1);
        x.inject(1793, 0, 0, 0);
        Steps.ticks(x, 1);
        Check.due("it is no transfer of the boot", "1 0 0 1 0", Steps.client(x));
        Check.due("phase", 1, x.phase(1));
        x.inject(1409, 2, 0, 1001);
        Steps.ticks(x, 1);
        Check.due("nor does the boot go on with it", 1, x.phase(1));
        Check.due("client", "0 0 1001 0 -1", Steps.client(x));
    }

    private static void bootHoldsTheClient() {
        FieldNet x = new FieldNet();
        x.expect(1, 1001, 0);
        x.power(1, true);
        Steps.ticks(x, 1);
        x.disturb(3);
        Steps.ticks(x, 1);
        Check.due("client", "1 0 0 1 0", Steps.client(x));
        Check.refused("busy", x.transfer(2, 0, false, 0));
    }

    private static void afterABootItIsTheCallersAgain() {
        FieldNet x = new FieldNet();
        x.expect(1, 1001, 0);
        x.power(1, true);
        Steps.ticks(x, 3);
        Check.due("booted", 4, x.phase(1));
        for (int write = 0; write <= 1; write++) {
            x.transfer(1, 1, write == 1, 0);
            Steps.ticks(x, 1);
            Check.due("over", 0, x.client(0));
            Check.due("no phase", 4, x.phase(1));
            Check.due("no report", "1100 2100", Steps.reports(x));
        }
        x.power(1, false);
        x.transfer(1, 2, false, 0);
        Steps.ticks(x, 1);
        x.inject(1793, 0, 0, 0);
        Steps.ticks(x, 1);
        Check.due("a beat does not end it", "1 2 0 1 2", Steps.client(x));
    }

    private static void lateHasNoResult() {
        FieldNet x = Steps.withNodesOn(1);
        x.transfer(1, 0, false, 0);
        Steps.ticks(x, 1);
        Check.due("a result", 1001, x.client(2));
        x.transfer(2, 0, false, 0);
        Steps.ticks(x, 5);
        Check.due("late", "0 7 0 0 -1", Steps.client(x));
    }

    private static void lateLeavesItsRequest() {
        FieldNet x = Steps.withNodesOn(1);
        x.transfer(1, 12, true, 5);
        for (int i = 0; i < 5; i++) {
            Steps.tickWithoutCarrying(x);
        }
        Check.due("late", "0 7 0 0 -1", Steps.client(x));
        Check.due("pending", "1537 1 12 5", Steps.pending(x));
        Check.due("request and answer", 2, x.tick());
        Check.due("served all the same", 5, x.object(1, 12));
        Check.due("the answer is passed over", "0 7 0 0 -1", Steps.client(x));
    }

    private static void lateAnswerIsPassedOver() {
        FieldNet x = Steps.withNodesOn(1);
        x.transfer(1, 0, false, 0);
        Steps.carryOne(x);
        Check.due("answer", "1409 2 0 1001", Steps.pending(x));
        for (int i = 0; i < 4; i++) {
            Steps.tickWithoutCarrying(x);
        }
        Check.due("late", "0 7 0 0 -1", Steps.client(x));
        x.transfer(1, 12, true, 5);
        Check.due("the late answer, the request and its answer", 3, x.tick());
        Check.due("a late answer to a read does not end a write", 5, x.object(1, 12));
        Check.due("client", "0 0 0 0 -1", Steps.client(x));
    }
}
