/** The codes of an ANSWER 9, each with the cases next to it that have another answer. */
public final class AnswerCodeTest {
    private static final int LOW = Integer.MIN_VALUE;
    private static final int HIGH = Integer.MAX_VALUE;
    private static final int[] ALL_OBJECTS = {LOW, -2, -1, 0, 1, 2, 3, 4, 5, 6, 7, 8, 9, 10, 11, 12, 13, 14, 15, 16, 17, 18,
        31, 32, HIGH};

    public static void main(String[] args) {
        for (boolean running : new boolean[] {false, true}) {
            codeSixForOtherRequests(running);
            codeFiveWhenNothingIsReadOut(running);
            codeFiveForAnotherToggle(running);
            codeFiveEndsTheReadOut(running);
            codeFiveBehindTheLastCharacter(running);
            codeOneForNoObject(running);
            codeTwoForWhatNothingMayBeWrittenTo(running);
            readingHasNoOtherCode(running);
            codeThreeForOtherValues(running);
        }
        codeFourWhileRunning();
        theFirstOfTheCodes();
        refusedWritesHaveNoEffect();
        stoppedAndOffNodesDoNotAnswer();
        Check.end();
    }

    private static FieldNet node(boolean running) {
        FieldNet x = Steps.withNodesOn(2);
        if (running) {
            Steps.run(x, 2);
        }
        return x;
    }

    private static String ask(FieldNet x, int a, int b, int c) {
        return Steps.answerTo(x, 2, a, b, c);
    }

    private static void codeSixForOtherRequests(boolean running) {
        for (int a : new int[] {LOW, -1, 0, 4, 5, 9, HIGH}) {
            FieldNet x = node(running);
            for (int b : ALL_OBJECTS) {
                Check.due("request " + a + " for " + b, "9 " + b + " 6", ask(x, a, b, 0));
            }
        }
        FieldNet x = node(running);
        Check.due("1 is a request", "1 12 0", ask(x, 1, 12, 0));
        Check.due("2 is a request", "2 12 0", ask(x, 2, 12, 0));
        Check.due("3 is a request", "9 16 5", ask(x, 3, 12, 0));
    }

    private static void codeFiveWhenNothingIsReadOut(boolean running) {
        FieldNet x = node(running);
        for (int b : new int[] {LOW, -1, 0, 1, 2, 16, 17, HIGH}) {
            Check.due("object 16, whatever B is: " + b, "9 16 5", ask(x, 3, b, 0));
        }
        ask(x, 2, 15, 0);
        Check.due("reading another object begins nothing", "9 16 5", ask(x, 3, 0, 0));
        ask(x, 1, 16, 0);
        Check.due("nor does a write to the name", "9 16 5", ask(x, 3, 0, 0));
    }

    private static void codeFiveForAnotherToggle(boolean running) {
        for (int b : new int[] {LOW, -1, 1, 2, 3, 16, HIGH}) {
            FieldNet x = node(running);
            ask(x, 2, 16, 0);
            Check.due("toggle 0, B is " + b, "9 16 5", ask(x, 3, b, 0));
        }
        for (int b : new int[] {LOW, -1, 0, 2, 3, 16, HIGH}) {
            FieldNet x = node(running);
            ask(x, 2, 16, 0);
            Check.due("toggle 0", "4 8", ask(x, 3, 0, 0).substring(0, 3));
            Check.due("toggle 1, B is " + b, "9 16 5", ask(x, 3, b, 0));
        }
    }

    private static void codeFiveEndsTheReadOut(boolean running) {
        FieldNet x = node(running);
        ask(x, 2, 16, 0);
        ask(x, 3, 0, 0);
        Check.due("another toggle", "9 16 5", ask(x, 3, 0, 0));
        Check.due("the toggle that it was", "9 16 5", ask(x, 3, 1, 0));
        Check.due("begun anew", "3 16 11", ask(x, 2, 16, 0));
        Check.due("from its beginning", "4 8 1162104654", ask(x, 3, 0, 0));
    }

    private static void codeFiveBehindTheLastCharacter(boolean running) {
        for (int id : new int[] {0, 10, 100, 1000}) {
            for (int b = 0; b <= 1; b++) {
                FieldNet x = new FieldNet();
                x.identify(2, id);
                x.power(2, true);
                Steps.command(x, running ? 1 : 128, 2);
                ask(x, 2, 16, 0);
                for (int at = 0; at < x.object(2, 16); at += 4) {
                    Check.due("a part", "4", ask(x, 3, at / 4 % 2, 0).substring(0, 1));
                }
                Check.due("no character is left", "9 16 5", ask(x, 3, b, 0));
            }
        }
    }

    private static void codeOneForNoObject(boolean running) {
        FieldNet x = node(running);
        for (int b : new int[] {LOW, -2, -1, 17, 18, 31, 32, HIGH}) {
            Check.due("read " + b, "9 " + b + " 1", ask(x, 2, b, 0));
            Check.due("write " + b, "9 " + b + " 1", ask(x, 1, b, 0));
        }
    }

    private static void codeTwoForWhatNothingMayBeWrittenTo(boolean running) {
        for (int b : new int[] {0, 1, 8, 9, 10, 11, 16}) {
            FieldNet y = node(running);
            for (int c : new int[] {LOW, -1, 0, 1}) {
                Check.due("write to " + b, "9 " + b + " 2", ask(y, 1, b, c));
            }
        }
        FieldNet x = node(running);
        Check.due("not the one behind 1", "1 2 0", ask(x, 1, 2, 0));
        Check.due("nor the one before 8", running ? "9 7 4" : "1 7 0", ask(x, 1, 7, 0));
        Check.due("nor the one behind 11", "1 12 0", ask(x, 1, 12, 0));
        Check.due("nor the one before 16", "1 15 0", ask(x, 1, 15, 0));
    }

    private static void readingHasNoOtherCode(boolean running) {
        FieldNet x = node(running);
        Check.due("identity", "2 0 1002", ask(x, 2, 0, HIGH));
        for (int b = 1; b <= 15; b++) {
            Check.due("read " + b, "2 " + b + " 0", ask(x, 2, b, LOW));
        }
        Check.due("name", "3 16 11", ask(x, 2, 16, LOW));
    }

    private static void codeThreeForOtherValues(boolean running) {
        int[][] bad = {{2, -1}, {2, 51}, {3, 100}, {3, 151}, {3, 201}, {3, 501}, {4, -1}, {4, 5}, {5, -1}, {5, 21},
            {6, 708}, {6, 807}, {6, 812}, {6, 1208}, {7, 11112}, {7, 11211}, {7, 11216}, {7, 11612}, {7, 21212},
            {7, 51212}};
        FieldNet x = node(running);
        for (int[] write : bad) {
            Check.due("write " + write[1], "9 " + write[0] + " 3", ask(x, 1, write[0], write[1]));
        }
        Check.due("objects", "1002 0 0 0 0 0 0 0 0 0 0 0 0 0 0 0 11", Steps.objects(x, 2));
    }

    private static void codeFourWhileRunning() {
        int[][] good = {{4, 0}, {4, 4}, {6, 0}, {6, 811}, {7, 0}, {7, 11512}};
        for (int[] write : good) {
            FieldNet x = node(true);
            Check.due("running", "9 " + write[0] + " 4", ask(x, 1, write[0], write[1]));
            Check.due("stays", 0, x.object(2, write[0]));
            Steps.command(x, 128, 2);
            Check.due("prepared", "1 " + write[0] + " 0", ask(x, 1, write[0], write[1]));
            Check.due("written", write[1], x.object(2, write[0]));
        }
        FieldNet x = node(true);
        for (int b : new int[] {2, 3, 5, 12, 13, 14, 15}) {
            Check.due("others may be written", "1 " + b + " 0", ask(x, 1, b, 0));
        }
    }

    private static void theFirstOfTheCodes() {
        FieldNet x = node(true);
        Check.due("6 before 1", "9 17 6", ask(x, 4, 17, 0));
        Check.due("6 before 2", "9 0 6", ask(x, 0, 0, 0));
        Check.due("1 before 3", "9 17 1", ask(x, 1, 17, LOW));
        Check.due("2 before 3", "9 1 2", ask(x, 1, 1, LOW));
        Check.due("3 before 4, type", "9 4 3", ask(x, 1, 4, 5));
        Check.due("3 before 4, map", "9 6 3", ask(x, 1, 6, 812));
        Check.due("3 before 4, source", "9 7 3", ask(x, 1, 7, 21212));
    }

    private static void refusedWritesHaveNoEffect() {
        FieldNet x = Steps.withNodesOn(2);
        Steps.write(x, 2, 4, 2);
        Steps.run(x, 2);
        x.inject(128, 0, 0, 0);
        Check.due("the first sync", 1, x.tick());
        Check.due("code 4", "9 4 4", ask(x, 1, 4, 2));
        x.inject(128, 0, 0, 0);
        Check.due("syncs are counted on", 2, x.tick());
        x.inject(1538, 1, 2, 4);
        Check.due("period", 2, x.tick());
        x.inject(1538, 1, 2, 51);
        Check.due("code 3", 2, x.tick());
        Steps.ticks(x, 2);
        Check.due("the beat is where it was", 1, x.tick());
        Steps.write(x, 2, 2, 0);
        Steps.write(x, 2, 3, 104);
        x.inject(1793, 5, 0, 0);
        Check.due("heard", 1, x.tick());
        x.inject(1538, 1, 3, 151);
        Check.due("code 3", 2, x.tick());
        Steps.ticks(x, 2);
        Check.due("not yet missed", 0, x.object(2, 1));
        Steps.ticks(x, 1);
        Check.due("what was heard stays", 1, x.object(2, 1));
    }

    private static void stoppedAndOffNodesDoNotAnswer() {
        FieldNet x = Steps.withNodesOn(2);
        Steps.command(x, 2, 2);
        for (int a = 0; a <= 4; a++) {
            Check.due("stopped, request " + a, "none", ask(x, a, 12, 5));
        }
        x.power(2, false);
        for (int a = 0; a <= 4; a++) {
            Check.due("off, request " + a, "none", ask(x, a, 12, 5));
        }
        Check.due("nothing is written", 0, x.object(2, 12));
    }
}
