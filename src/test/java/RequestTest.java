/** Promises 12 and 13: requests over the bus, their answers, and what they do to a node's objects. */
public final class RequestTest {
    private static final int LOW = Integer.MIN_VALUE;
    private static final int HIGH = Integer.MAX_VALUE;

    public static void main(String[] args) {
        reads();
        noSuchObject();
        noSuchRequest();
        notWritable();
        values();
        valuesThatNameNodes();
        notWhileRunning();
        orderOfCodes();
        nameIsReadOut();
        readOutGoesWrong();
        readOutOutlastsOtherRequests();
        statesThatAnswer();
        requestsToOthers();
        onlyPeriodMovesTheBeat();
        onlyWatchForgetsWhatWasHeard();
        onlyTypeCountsSyncsAnew();
        writingTheSameValueCountsAsWriting();
        Check.end();
    }

    private static void reads() {
        FieldNet x = Steps.withNodesOn(1, 2);
        Steps.write(x, 2, 2, 50);
        Steps.write(x, 2, 15, -9);
        x.input(2, 9, 5);
        x.fail(2, 1);
        Steps.drain(x);
        Check.due("identity", "2 0 1002", Steps.answerTo(x, 2, 2, 0, 77));
        Check.due("error", "2 1 2", Steps.answerTo(x, 2, 2, 1, 77));
        Check.due("input", "2 9 5", Steps.answerTo(x, 2, 2, 9, 77));
        Check.due("output", "2 15 -9", Steps.answerTo(x, 2, 2, 15, 77));
        Check.due("nothing is written", -9, x.object(2, 15));
        Check.due("another node", "2 15 0", Steps.answerTo(x, 1, 2, 15, 0));
    }

    private static void noSuchObject() {
        FieldNet x = Steps.withNodesOn(1);
        for (int k : new int[] {-1, 17, 31, LOW, HIGH}) {
            Check.due("read", "9 " + k + " 1", Steps.answerTo(x, 1, 2, k, 0));
            Check.due("write", "9 " + k + " 1", Steps.answerTo(x, 1, 1, k, 0));
        }
    }

    private static void noSuchRequest() {
        FieldNet x = Steps.withNodesOn(1);
        for (int a : new int[] {0, 4, -1, 9, LOW, HIGH}) {
            Check.due("request " + a, "9 12 6", Steps.answerTo(x, 1, a, 12, 5));
            Check.due("request " + a, "9 99 6", Steps.answerTo(x, 1, a, 99, 5));
        }
        Check.due("nothing is written", 0, x.object(1, 12));
    }

    private static void notWritable() {
        FieldNet x = Steps.withNodesOn(1);
        String before = Steps.objects(x, 1);
        for (int k : new int[] {0, 1, 8, 9, 10, 11, 16}) {
            Check.due("write", "9 " + k + " 2", Steps.answerTo(x, 1, 1, k, 0));
            Check.due("write", "9 " + k + " 2", Steps.answerTo(x, 1, 1, k, 7));
        }
        Check.due("objects", before, Steps.objects(x, 1));
    }

    private static void taken(int n, int k, int... values) {
        FieldNet x = Steps.withNodesOn(n);
        for (int v : values) {
            Check.due("write " + v, "1 " + k + " 0", Steps.answerTo(x, n, 1, k, v));
            Check.due("object " + k, v, x.object(n, k));
        }
    }

    private static void notTaken(int n, int k, int... values) {
        FieldNet x = Steps.withNodesOn(n);
        for (int v : values) {
            Check.due("write " + v + " to " + k, "9 " + k + " 3", Steps.answerTo(x, n, 1, k, v));
            Check.due("object " + k, 0, x.object(n, k));
        }
    }

    private static void values() {
        taken(1, 2, 50, 1, 0);
        notTaken(1, 2, -1, 51, LOW, HIGH);
        taken(1, 4, 4, 1, 0);
        notTaken(1, 4, -1, 5, LOW, HIGH);
        taken(1, 5, 20, 1, 0);
        notTaken(1, 5, -1, 21, LOW, HIGH);
        for (int k = 12; k <= 15; k++) {
            taken(1, k, LOW, HIGH, -1, 0, 1);
        }
        for (int a = 8; a <= 11; a++) {
            taken(1, 6, 100 * a + 8, 100 * a + 9, 100 * a + 10, 100 * a + 11);
            notTaken(1, 6, 100 * a + 7, 100 * a + 12, 100 * a, 100 * a + 99);
        }
        taken(1, 6, 808, 0);
        notTaken(1, 6, 1, 8, 708, 711, 1208, 1211, -808, -8, 80808, LOW, HIGH);
    }

    private static void valuesThatNameNodes() {
        for (int n = 1; n <= 4; n++) {
            for (int m = 1; m <= 4; m++) {
                if (m == n) {
                    notTaken(n, 3, 100 * m + 1, 100 * m + 50);
                    notTaken(n, 7, 10000 * m + 1212);
                } else {
                    taken(n, 3, 100 * m + 1, 100 * m + 50, 0);
                    notTaken(n, 3, 100 * m, 100 * m + 51, 100 * m + 99, -100 * m - 1);
                    taken(n, 7, 10000 * m + 1212, 10000 * m + 1215, 10000 * m + 1512, 10000 * m + 1313, 0);
                    notTaken(n, 7, 10000 * m + 1112, 10000 * m + 1612, 10000 * m + 1211, 10000 * m + 1216,
                            10000 * m, -10000 * m - 1212);
                }
            }
            notTaken(n, 3, 1, 50, 501, 550, 9901, -1, LOW, HIGH);
            notTaken(n, 7, 1, 1212, 51212, 101212, -1, LOW, HIGH);
        }
    }

    private static void notWhileRunning() {
        FieldNet x = Steps.withNodesOn(1);
        Steps.run(x, 1);
        Check.due("type", "9 4 4", Steps.answerTo(x, 1, 1, 4, 1));
        Check.due("map", "9 6 4", Steps.answerTo(x, 1, 1, 6, 808));
        Check.due("source", "9 7 4", Steps.answerTo(x, 1, 1, 7, 21212));
        Check.due("also 0", "9 4 4", Steps.answerTo(x, 1, 1, 4, 0));
        Check.due("objects", "1001 0 0 0 0 0 0 0 0 0 0 0 0 0 0 0 11", Steps.objects(x, 1));
        Check.due("period", "1 2 0", Steps.answerTo(x, 1, 1, 2, 50));
        Check.due("watch", "1 3 0", Steps.answerTo(x, 1, 1, 3, 250));
        Check.due("pause", "1 5 0", Steps.answerTo(x, 1, 1, 5, 20));
        Check.due("output", "1 12 0", Steps.answerTo(x, 1, 1, 12, 6));
        Check.due("read", "2 4 0", Steps.answerTo(x, 1, 2, 4, 0));
        Steps.command(x, 128, 1);
        Check.due("prepared", "1 4 0", Steps.answerTo(x, 1, 1, 4, 1));
    }

    private static void orderOfCodes() {
        FieldNet x = Steps.withNodesOn(1);
        Steps.run(x, 1);
        Check.due("3 before 4", "9 4 3", Steps.answerTo(x, 1, 1, 4, 5));
        Check.due("3 before 4", "9 6 3", Steps.answerTo(x, 1, 1, 6, 1));
        Check.due("3 before 4", "9 7 3", Steps.answerTo(x, 1, 1, 7, 11212));
        Check.due("1 before all", "9 17 1", Steps.answerTo(x, 1, 1, 17, -1));
        Check.due("6 before all", "9 17 6", Steps.answerTo(x, 1, 4, 17, -1));
    }

    private static int packed(String part) {
        int all = 0;
        for (int i = part.length() - 1; i >= 0; i--) {
            all = all * 256 + part.charAt(i);
        }
        return all;
    }

    private static void readOut(int n, int id) {
        FieldNet x = new FieldNet();
        x.identify(n, id);
        x.power(n, true);
        String name = "NODE " + n + ":" + id;
        Check.due("length", "3 16 " + name.length(), Steps.answerTo(x, n, 2, 16, 0));
        int toggle = 0;
        for (int at = 0; at < name.length(); at += 4) {
            String part = name.substring(at, Math.min(at + 4, name.length()));
            String due = "4 " + (toggle + 2 * part.length()) + " " + packed(part);
            Check.due(name + " at " + at, due, Steps.answerTo(x, n, 3, toggle, 0));
            toggle = 1 - toggle;
        }
        Check.due("no more, toggle 0", "9 16 5", Steps.answerTo(x, n, 3, 0, 0));
        Check.due("no more, toggle 1", "9 16 5", Steps.answerTo(x, n, 3, 1, 0));
    }

    private static void nameIsReadOut() {
        readOut(1, 1001);
        readOut(2, 0);
        readOut(3, 42);
        readOut(4, 9999);
        readOut(4, 700);
    }

    private static void readOutGoesWrong() {
        FieldNet x = Steps.withNodesOn(1);
        Check.due("not begun", "9 16 5", Steps.answerTo(x, 1, 3, 0, 0));
        for (int wrong : new int[] {1, 2, -1, 16, LOW}) {
            Check.due("begun", "3 16 11", Steps.answerTo(x, 1, 2, 16, 0));
            Check.due("wrong toggle", "9 16 5", Steps.answerTo(x, 1, 3, wrong, 0));
            Check.due("reads out no more", "9 16 5", Steps.answerTo(x, 1, 3, 0, 0));
        }
        Steps.answerTo(x, 1, 2, 16, 0);
        Check.due("first", "4 8 " + packed("NODE"), Steps.answerTo(x, 1, 3, 0, 0));
        Check.due("begun again", "3 16 11", Steps.answerTo(x, 1, 2, 16, 0));
        Check.due("from its beginning, toggle 0", "4 8 " + packed("NODE"), Steps.answerTo(x, 1, 3, 0, 0));
        Check.due("toggle 0 again", "9 16 5", Steps.answerTo(x, 1, 3, 0, 0));
        Steps.answerTo(x, 1, 2, 16, 0);
        Steps.command(x, 129, 1);
        Check.due("after a reset", "9 16 5", Steps.answerTo(x, 1, 3, 0, 0));
    }

    private static void readOutOutlastsOtherRequests() {
        FieldNet x = Steps.withNodesOn(1, 2);
        Steps.answerTo(x, 1, 2, 16, 0);
        Steps.answerTo(x, 1, 3, 0, 0);
        Steps.answerTo(x, 1, 2, 0, 0);
        Steps.answerTo(x, 1, 1, 12, 1);
        Steps.answerTo(x, 1, 1, 16, 1);
        Steps.answerTo(x, 1, 7, 0, 0);
        Steps.answerTo(x, 2, 2, 16, 0);
        Steps.command(x, 2, 1);
        Check.due("stopped", "none", Steps.answerTo(x, 1, 3, 0, 0));
        Steps.command(x, 1, 1);
        Check.due("goes on", "4 9 " + packed(" 1:1"), Steps.answerTo(x, 1, 3, 1, 0));
        Check.due("the other one", "4 8 " + packed("NODE"), Steps.answerTo(x, 2, 3, 0, 0));
    }

    private static void statesThatAnswer() {
        FieldNet x = new FieldNet();
        Check.due("off", "none", Steps.answerTo(x, 1, 2, 0, 0));
        x.power(1, true);
        Check.due("prepared", "2 0 1001", Steps.answerTo(x, 1, 2, 0, 0));
        Steps.command(x, 1, 1);
        Check.due("running", "2 0 1001", Steps.answerTo(x, 1, 2, 0, 0));
        Steps.command(x, 2, 1);
        Check.due("stopped", "none", Steps.answerTo(x, 1, 2, 0, 0));
        Check.due("stopped", "none", Steps.answerTo(x, 1, 1, 12, 5));
        Check.due("nothing is written", 0, x.object(1, 12));
    }

    private static void requestsToOthers() {
        FieldNet x = Steps.withNodesOn(1, 2, 3, 4);
        x.inject(1539, 1, 12, 8);
        Steps.drain(x);
        for (int n = 1; n <= 4; n++) {
            Check.due("node " + n, n == 3 ? 8 : 0, x.object(n, 12));
        }
    }

    /** Objects that may be written while a node runs, but for the one that is looked at. */
    private static void writeOthers(FieldNet x, int but) {
        for (int k : new int[] {2, 3, 5, 12, 13, 14, 15}) {
            if (k != but) {
                x.inject(1537, 1, k, 0);
                x.tick();
            }
        }
    }

    private static void onlyPeriodMovesTheBeat() {
        FieldNet x = Steps.withNodesOn(1);
        x.inject(1537, 1, 2, 9);
        Check.due("write and answer", 2, x.tick());
        writeOthers(x, 2);
        x.inject(1537, 2, 2, 0);
        Check.due("7 above: a read and its answer", 2, x.tick());
        x.inject(1537, 1, 4, 1);
        Check.due("8 above: write and answer", 2, x.tick());
        Check.due("9 above: the beat", 1, x.tick());
    }

    private static void onlyWatchForgetsWhatWasHeard() {
        FieldNet x = Steps.withNodesOn(1);
        Steps.write(x, 1, 3, 209);
        x.inject(1794, 5, 0, 0);
        Check.due("heard", 1, x.tick());
        writeOthers(x, 3);
        for (int k : new int[] {4, 6}) {
            x.inject(1537, 1, k, 0);
            x.tick();
        }
        Check.due("8 above", 0, x.object(1, 1));
        x.tick();
        Check.due("9 above", 1, x.object(1, 1));
    }

    private static void onlyTypeCountsSyncsAnew() {
        FieldNet x = Steps.withNodesOn(1);
        Steps.write(x, 1, 4, 3);
        Steps.run(x, 1);
        x.inject(128, 0, 0, 0);
        Check.due("first", 1, x.tick());
        writeOthers(x, 4);
        x.inject(128, 0, 0, 0);
        Check.due("second", 1, x.tick());
        Steps.command(x, 128, 1);
        Steps.write(x, 1, 6, 808);
        Steps.write(x, 1, 7, 21212);
        Steps.answerTo(x, 1, 2, 4, 0);
        Steps.run(x, 1);
        x.inject(128, 0, 0, 0);
        Check.due("third, and a sample", 2, x.tick());
    }

    private static void writingTheSameValueCountsAsWriting() {
        FieldNet x = Steps.withNodesOn(1);
        Steps.write(x, 1, 4, 2);
        Steps.run(x, 1);
        x.inject(128, 0, 0, 0);
        Check.due("first", 1, x.tick());
        Steps.command(x, 128, 1);
        Steps.write(x, 1, 4, 2);
        Steps.write(x, 1, 3, 204);
        x.inject(1794, 5, 0, 0);
        Check.due("heard", 1, x.tick());
        Steps.write(x, 1, 3, 204);
        Steps.ticks(x, 9);
        Check.due("nothing was heard yet", 0, x.object(1, 1));
        Steps.run(x, 1);
        x.inject(128, 0, 0, 0);
        Check.due("first again", 1, x.tick());
        x.inject(128, 0, 0, 0);
        Check.due("second, and a sample", 2, x.tick());
        x.inject(1537, 1, 2, 2);
        Check.due("write and answer", 2, x.tick());
        x.inject(1537, 1, 2, 2);
        Check.due("write and answer, 1 above", 2, x.tick());
        Check.due("no beat, 1 above the second", 0, x.tick());
        Check.due("beat, 2 above the second", 1, x.tick());
    }
}
