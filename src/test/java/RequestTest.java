/** Promises 12 and 13: requests over the bus, their answers, and what they do to a node's objects. */
public final class RequestTest {
    private static final int LOW = Integer.MIN_VALUE;

    public static void main(String[] args) {
        reads();
        nameIsReadOut();
        readOutGoesWrong();
        readOutOutlastsOtherRequests();
        requestsToOthers();
        onlyPeriodMovesTheBeat();
        onlyWatchForgetsWhatWasHeard();
        onlyTypeCountsSyncsAnew();
        writingTheSameValueCountsAsWriting();
        Check.end();
    }

    private static void reads() {
        FieldNet x = Steps.withNodesOn(1, 2);
        Steps.write(x, 2, 2, 50);
        Steps.write(x, 2, 15, -9);
        x.input(2, 9, 5);
        x.fail(2, 1);
        Steps.drain(x);
        Check.due("identity", "2 0 1002", Steps.answerTo(x, 2, 2, 0, 77));
        Check.due("error", "2 1 2", Steps.answerTo(x, 2, 2, 1, 77));
        Check.due("input", "2 9 5", Steps.answerTo(x, 2, 2, 9, 77));
        Check.due("output", "2 15 -9", Steps.answerTo(x, 2, 2, 15, 77));
        Check.due("nothing is written", -9, x.object(2, 15));
        Check.due("another node", "2 15 0", Steps.answerTo(x, 1, 2, 15, 0));
    }

    private static int packed(String part) {
        int all = 0;
        for (int i = part.length() - 1; i >= 0; i--) {
            all = all * 256 + part.charAt(i);
        }
        return all;
    }

    private static void readOut(int n, int id) {
        FieldNet x = new FieldNet();
        x.identify(n, id);
        x.power(n, true);
        String name = "NODE " + n + ":" + id;
        Check.due("length", "3 16 " + name.length(), Steps.answerTo(x, n, 2, 16, 0));
        int toggle = 0;
        for (int at = 0; at < name.length(); at += 4) {
            String part = name.substring(at, Math.min(at + 4, name.length()));
            String due = "4 " + (toggle + 2 * part.length()) + " " + packed(part);
            Check.due(name + " at " + at, due, Steps.answerTo(x, n, 3, toggle, 0));
            toggle = 1 - toggle;
        }
        Check.due("no more, toggle 0", "9 16 5", Steps.answerTo(x, n, 3, 0, 0));
        Check.due("no more, toggle 1", "9 16 5", Steps.answerTo(x, n, 3, 1, 0));
    }

    private static void nameIsReadOut() {
        readOut(1, 1001);
        readOut(2, 0);
        readOut(3, 42);
        readOut(4, 9999);
        readOut(4, 700);
    }

    private static void readOutGoesWrong() {
        FieldNet x = Steps.withNodesOn(1);
        Check.due("not begun", "9 16 5", Steps.answerTo(x, 1, 3, 0, 0));
        for (int wrong : new int[] {1, 2, -1, 16, LOW}) {
            Check.due("begun", "3 16 11", Steps.answerTo(x, 1, 2, 16, 0));
            Check.due("wrong toggle", "9 16 5", Steps.answerTo(x, 1, 3, wrong, 0));
            Check.due("reads out no more", "9 16 5", Steps.answerTo(x, 1, 3, 0, 0));
        }
        Steps.answerTo(x, 1, 2, 16, 0);
        Check.due("first", "4 8 " + packed("NODE"), Steps.answerTo(x, 1, 3, 0, 0));
        Check.due("begun again", "3 16 11", Steps.answerTo(x, 1, 2, 16, 0));
        Check.due("from its beginning, toggle 0", "4 8 " + packed("NODE"), Steps.answerTo(x, 1, 3, 0, 0));
        Check.due("toggle 0 again", "9 16 5", Steps.answerTo(x, 1, 3, 0, 0));
        Steps.answerTo(x, 1, 2, 16, 0);
        Steps.command(x, 129, 1);
        Check.due("after a reset", "9 16 5", Steps.answerTo(x, 1, 3, 0, 0));
    }

    private static void readOutOutlastsOtherRequests() {
        FieldNet x = Steps.withNodesOn(1, 2);
        Steps.answerTo(x, 1, 2, 16, 0);
        Steps.answerTo(x, 1, 3, 0, 0);
        Steps.answerTo(x, 1, 2, 0, 0);
        Steps.answerTo(x, 1, 1, 12, 1);
        Steps.answerTo(x, 1, 1, 16, 1);
        Steps.answerTo(x, 1, 7, 0, 0);
        Steps.answerTo(x, 2, 2, 16, 0);
        Steps.command(x, 2, 1);
        Check.due("stopped", "none", Steps.answerTo(x, 1, 3, 0, 0));
        Steps.command(x, 1, 1);
        Check.due("goes on", "4 9 " + packed(" 1:1"), Steps.answerTo(x, 1, 3, 1, 0));
        Check.due("the other one", "4 8 " + packed("NODE"), Steps.answerTo(x, 2, 3, 0, 0));
    }

    private static void requestsToOthers() {
        FieldNet x = Steps.withNodesOn(1, 2, 3, 4);
        x.inject(1539, 1, 12, 8);
        Steps.drain(x);
        for (int n = 1; n <= 4; n++) {
            Check.due("node " + n, n == 3 ? 8 : 0, x.object(n, 12));
        }
    }

    /** Objects that may be written while a node runs, but for the one that is looked at. */
    private static void writeOthers(FieldNet x, int but) {
        for (int k : new int[] {2, 3, 5, 12, 13, 14, 15}) {
            if (k != but) {
                x.inject(1537, 1, k, 0);
                x.tick();
            }
        }
    }

    private static void onlyPeriodMovesTheBeat() {
        FieldNet x = Steps.withNodesOn(1);
        x.inject(1537, 1, 2, 9);
        Check.due("write and answer", 2, x.tick());
        writeOthers(x, 2);
        x.inject(1537, 2, 2, 0);
        Check.due("7 above: a read and its answer", 2, x.tick());
        x.inject(1537, 1, 4, 1);
        Check.due("8 above: write and answer", 2, x.tick());
        Check.due("9 above: the beat", 1, x.tick());
    }

    private static void onlyWatchForgetsWhatWasHeard() {
        FieldNet x = Steps.withNodesOn(1);
        Steps.write(x, 1, 3, 209);
        x.inject(1794, 5, 0, 0);
        Check.due("heard", 1, x.tick());
        writeOthers(x, 3);
        for (int k : new int[] {4, 6}) {
            x.inject(1537, 1, k, 0);
            x.tick();
        }
        Check.due("8 above", 0, x.object(1, 1));
        x.tick();
        Check.due("9 above", 1, x.object(1, 1));
    }

    private static void onlyTypeCountsSyncsAnew() {
        FieldNet x = Steps.withNodesOn(1);
        Steps.write(x, 1, 4, 3);
        Steps.run(x, 1);
        x.inject(128, 0, 0, 0);
        Check.due("first", 1, x.tick());
        writeOthers(x, 4);
        x.inject(128, 0, 0, 0);
        Check.due("second", 1, x.tick());
        Steps.command(x, 128, 1);
        Steps.write(x, 1, 6, 808);
        Steps.write(x, 1, 7, 21212);
        Steps.answerTo(x, 1, 2, 4, 0);
        Steps.run(x, 1);
        x.inject(128, 0, 0, 0);
        Check.due("third, and a sample", 2, x.tick());
    }

    private static void writingTheSameValueCountsAsWriting() {
        FieldNet x = Steps.withNodesOn(1);
        Steps.write(x, 1, 4, 2);
        Steps.run(x, 1);
        x.inject(128, 0, 0, 0);
        Check.due("first", 1, x.tick());
        Steps.command(x, 128, 1);
        Steps.write(x, 1, 4, 2);
        Steps.write(x, 1, 3, 204);
        x.inject(1794, 5, 0, 0);
        Check.due("heard", 1, x.tick());
        Steps.write(x, 1, 3, 204);
        Steps.ticks(x, 9);
        Check.due("nothing was heard yet", 0, x.object(1, 1));
        Steps.run(x, 1);
        x.inject(128, 0, 0, 0);
        Check.due("first again", 1, x.tick());
        x.inject(128, 0, 0, 0);
        Check.due("second, and a sample", 2, x.tick());
        x.inject(1537, 1, 2, 2);
        Check.due("write and answer", 2, x.tick());
        x.inject(1537, 1, 2, 2);
        Check.due("write and answer, 1 above", 2, x.tick());
        Check.due("no beat, 1 above the second", 0, x.tick());
        Check.due("beat, 2 above the second", 1, x.tick());
    }
}
