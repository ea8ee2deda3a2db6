/** Promise 17: text, and how the client gets it. */
public final class TextTest {
    private static final int ABCD = 0x44434241;

    public static void main(String[] args) {
        names();
        noSuchCharacter();
        asFarAsItCame();
        staysUntilTheNext();
        untilMovesWithEveryPart();
        wrongToggleIsPassedOver();
        partsAndTheirSizes();
        atMostTwelve();
        endsByItsLength();
        endsByAnEmptyPart();
        lengthIsOfThisTransferOnly();
        lengthAgain();
        refusedReadOut();
        bytes();
        fewerThanTwelve();
        lengthsAroundTwelve();
        longTextEndsLate();
        othersArePassedOver();
        togglesTurnAround();
        Check.end();
    }

    private static void names() {
        int[] ids = {0, 12, 345, 9999};
        for (int n = 1; n <= 4; n++) {
            FieldNet x = new FieldNet();
            x.identify(n, ids[n - 1]);
            x.power(n, true);
            Steps.drain(x);
            x.transfer(n, 16, false, 0);
            Steps.ticks(x, 3);
            String name = "NODE " + n + ":" + ids[n - 1];
            Check.due("text", name, Steps.text(x));
            Check.due("client", "0 0 " + name.length() + " 0 -1", Steps.client(x));
        }
    }

    private static void noSuchCharacter() {
        FieldNet x = Steps.withNodesOn(1);
        x.transfer(1, 16, false, 0);
        Steps.ticks(x, 3);
        Check.due("last", (int) '1', x.text(10));
        for (int i : new int[] {-1, 11, 12, 13, Integer.MIN_VALUE, Integer.MAX_VALUE}) {
            Check.due("text(" + i + ")", -1, x.text(i));
        }
    }

    private static void asFarAsItCame() {
        FieldNet x = Steps.withNodesOn(1);
        x.transfer(1, 16, false, 0);
        Steps.carryOne(x);
        Check.due("answer", "1409 3 16 11", Steps.pending(x));
        Steps.carryOne(x);
        Check.due("request", "1537 3 0 0", Steps.pending(x));
        Check.due("none yet", "", Steps.text(x));
        Steps.carryOne(x);
        Steps.carryOne(x);
        Check.due("request", "1537 3 1 0", Steps.pending(x));
        Check.due("four", "NODE", Steps.text(x));
        Check.due("busy", "1 0 0 1 16", Steps.client(x));
        x.power(1, false);
        Steps.ticks(x, 6);
        Check.due("late", "0 7 0 0 -1", Steps.client(x));
        Check.due("as far as it got it", "NODE", Steps.text(x));
    }

    private static void staysUntilTheNext() {
        FieldNet x = Steps.withNodesOn(1, 2);
        x.transfer(1, 16, false, 0);
        Steps.ticks(x, 3);
        x.transfer(1, 0, false, 0);
        Steps.ticks(x, 1);
        Check.due("another read", "NODE 1:1001", Steps.text(x));
        x.transfer(2, 16, false, 0);
        Steps.carryOne(x);
        Check.due("begun", "NODE 1:1001", Steps.text(x));
        Steps.carryOne(x);
        Check.due("a length has come", "", Steps.text(x));
        Steps.ticks(x, 3);
        Check.due("the next", "NODE 2:1002", Steps.text(x));
    }

    private static FieldNet lengthHasCome(int length) {
        FieldNet x = new FieldNet();
        x.transfer(2, 5, false, 0);
        Steps.drain(x);
        x.inject(1410, 3, 5, length);
        Check.due("length, request", 2, x.tick());
        Check.due("busy", "1 0 0 2 5", Steps.client(x));
        return x;
    }

    private static void part(FieldNet x, int b, int c) {
        x.inject(1410, 4, b, c);
        x.tick();
    }

    private static void untilMovesWithEveryPart() {
        FieldNet x = new FieldNet();
        x.transfer(2, 5, false, 0);
        Steps.ticks(x, 3);
        x.inject(1410, 3, 5, 100);
        Steps.ticks(x, 1);
        Steps.ticks(x, 4);
        Check.due("busy", 1, x.client(0));
        FieldNet late = new FieldNet();
        late.transfer(2, 5, false, 0);
        Steps.ticks(late, 3);
        late.inject(1410, 3, 5, 100);
        Steps.ticks(late, 6);
        Check.due("late", "0 7 0 0 -1", Steps.client(late));
        part(x, 8, ABCD);
        Check.due("an answer in the tick of the time-out is too late", "0 7 0 0 -1", Steps.client(x));
        FieldNet y = lengthHasCome(100);
        Steps.ticks(y, 3);
        part(y, 8, ABCD);
        Steps.ticks(y, 4);
        Check.due("busy", 1, y.client(0));
        Steps.ticks(y, 1);
        Check.due("late", "0 7 0 0 -1", Steps.client(y));
    }

    private static void wrongToggleIsPassedOver() {
        FieldNet x = lengthHasCome(8);
        part(x, 9, ABCD);
        Check.due("toggle 1 for 0", "", Steps.text(x));
        part(x, 1, ABCD);
        Check.due("toggle 1 for 0, empty", "1 0 0 2 5", Steps.client(x));
        Check.due("no request", "", Steps.pending(x));
        part(x, 8, ABCD);
        Check.due("toggle 0", "ABCD", Steps.text(x));
        part(x, 8, ABCD);
        Check.due("toggle 0 for 1", "ABCD", Steps.text(x));
        Check.due("busy", "1 0 0 2 5", Steps.client(x));
        part(x, 9, ABCD);
        Check.due("toggle 1", "ABCDABCD", Steps.text(x));
        Check.due("over", "0 0 8 0 -1", Steps.client(x));
        FieldNet y = lengthHasCome(8);
        part(y, 9, ABCD);
        part(y, 9, ABCD);
        part(y, 9, ABCD);
        part(y, 9, ABCD);
        Steps.ticks(y, 1);
        Check.due("until does not move", "0 7 0 0 -1", Steps.client(y));
    }

    private static void partsAndTheirSizes() {
        String[] texts = {"", "A", "AB", "ABC", "ABCD", "ABCD", "ABCD", "ABCD"};
        for (int size = 1; size <= 7; size++) {
            FieldNet x = lengthHasCome(9);
            part(x, 2 * size, ABCD);
            Check.due("size " + size, texts[size], Steps.text(x));
            FieldNet y = lengthHasCome(9);
            part(y, 2 * size + 32, ABCD);
            Check.due("size " + size + " with other bits", texts[size], Steps.text(y));
            FieldNet z = lengthHasCome(9);
            part(z, 2 * size - 64, ABCD);
            Check.due("size " + size + " below 0", texts[size], Steps.text(z));
            Check.due("below 2: over", "0 0 " + texts[size].length() + " 0 -1", Steps.client(z));
        }
        FieldNet x = lengthHasCome(9);
        part(x, 16, ABCD);
        Check.due("size 0 with another bit", "", Steps.text(x));
        Check.due("not below 2: goes on", 1, x.client(0));
        part(x, 3, ABCD);
        Check.due("the toggle has changed", "A", Steps.text(x));
    }

    private static void atMostTwelve() {
        FieldNet x = lengthHasCome(100);
        part(x, 6, ABCD);
        part(x, 7, ABCD);
        part(x, 8, ABCD);
        Check.due("ten", "ABCABCABCD", Steps.text(x));
        part(x, 9, ABCD);
        Check.due("twelve", "ABCABCABCDAB", Steps.text(x));
        Check.due("its length is more", "1 0 0 2 5", Steps.client(x));
        part(x, 8, ABCD);
        Check.due("twelve", "ABCABCABCDAB", Steps.text(x));
        part(x, 1, ABCD);
        Check.due("over", "0 0 12 0 -1", Steps.client(x));
        Check.due("none", -1, x.text(12));
    }

    private static void endsByItsLength() {
        FieldNet x = lengthHasCome(4);
        part(x, 8, ABCD);
        Check.due("just", "0 0 4 0 -1", Steps.client(x));
        Check.due("no request more", "", Steps.pending(x));
        FieldNet y = lengthHasCome(3);
        part(y, 8, ABCD);
        Check.due("more", "0 0 4 0 -1", Steps.client(y));
        FieldNet z = lengthHasCome(5);
        part(z, 8, ABCD);
        Check.due("less", "1 0 0 2 5", Steps.client(z));
        for (int length : new int[] {0, -1, Integer.MIN_VALUE}) {
            FieldNet none = lengthHasCome(length);
            part(none, 2, ABCD);
            Check.due("length " + length, "0 0 1 0 -1", Steps.client(none));
        }
        FieldNet full = lengthHasCome(12);
        part(full, 8, ABCD);
        part(full, 9, ABCD);
        Check.due("eight", 1, full.client(0));
        part(full, 8, ABCD);
        Check.due("twelve", "0 0 12 0 -1", Steps.client(full));
    }

    private static void endsByAnEmptyPart() {
        FieldNet x = lengthHasCome(12);
        part(x, 8, ABCD);
        part(x, 1, ABCD);
        Check.due("B is 1", "0 0 4 0 -1", Steps.client(x));
        FieldNet y = lengthHasCome(12);
        part(y, 0, ABCD);
        Check.due("B is 0", "0 0 0 0 -1", Steps.client(y));
        FieldNet z = lengthHasCome(12);
        part(z, 2, ABCD);
        Check.due("B is 2", 1, z.client(0));
    }

    private static void lengthIsOfThisTransferOnly() {
        FieldNet x = lengthHasCome(12);
        part(x, 0, 0);
        x.transfer(2, 5, false, 0);
        Steps.ticks(x, 1);
        part(x, 8, ABCD);
        Check.due("no length has come", "1 0 0 2 5", Steps.client(x));
        Check.due("no text", "", Steps.text(x));
    }

    private static void lengthAgain() {
        FieldNet x = lengthHasCome(8);
        part(x, 8, ABCD);
        x.inject(1410, 3, 5, 2);
        x.tick();
        Check.due("empty again", "", Steps.text(x));
        part(x, 4, ABCD);
        Check.due("toggle 0 again", "AB", Steps.text(x));
        Check.due("its new length", "0 0 2 0 -1", Steps.client(x));
        FieldNet y = lengthHasCome(8);
        y.inject(1410, 2, 5, 66);
        y.tick();
        Check.due("a value after a length", "0 0 66 0 -1", Steps.client(y));
    }

    private static void refusedReadOut() {
        FieldNet x = Steps.withNodesOn(1);
        x.transfer(1, 16, false, 0);
        Steps.ticks(x, 1);
        Check.due("busy", "1 0 0 1 16", Steps.client(x));
        x.inject(0, 129, 1, 0);
        Steps.ticks(x, 2);
        Check.due("reset meanwhile", "0 5 0 0 -1", Steps.client(x));
    }

    private static void bytes() {
        FieldNet x = lengthHasCome(4);
        part(x, 8, 0xff800100);
        Check.due("lowest first", "0 1 128 255", x.text(0) + " " + x.text(1) + " " + x.text(2) + " " + x.text(3));
    }

    /** A text that has so many characters by now, and wants many more; the toggle that is due next is given back. */
    private static int grown(FieldNet x, int size) {
        int toggle = 0;
        for (int i = 0; i < size; i++) {
            part(x, 2 + toggle, 0x41 + i);
            toggle = 1 - toggle;
        }
        Check.due("grown", size, Steps.text(x).length());
        return toggle;
    }

    private static void fewerThanTwelve() {
        for (int size = 8; size <= 12; size++) {
            for (int more = 1; more <= 7; more++) {
                FieldNet x = lengthHasCome(100);
                int toggle = grown(x, size);
                String request = requestAfter(x, toggle + 2 * more, 0x7a797877);
                Check.due("the next request", "1538 3 " + (1 - toggle) + " 0", request);
                String all = "ABCDEFGHIJKL".substring(0, size) + "wxyz".substring(0, Math.min(4, more));
                Check.due(size + " and " + more, all.substring(0, Math.min(12, all.length())), Steps.text(x));
                Check.due("a 13th", -1, x.text(12));
                Check.due("goes on", "1 0 0 2 5", Steps.client(x));
            }
        }
    }

    /** What is pending when a part has come. */
    private static String requestAfter(FieldNet x, int b, int c) {
        x.inject(1410, 4, b, c);
        Steps.carryOne(x);
        return Steps.pending(x);
    }

    private static void lengthsAroundTwelve() {
        for (int length = 11; length <= 14; length++) {
            FieldNet x = lengthHasCome(length);
            part(x, 8, ABCD);
            part(x, 9, ABCD);
            part(x, 8, ABCD);
            Check.due("length " + length, length <= 12 ? "0 0 12 0 -1" : "1 0 0 2 5", Steps.client(x));
        }
        FieldNet just = lengthHasCome(11);
        part(just, 8, ABCD);
        part(just, 9, ABCD);
        part(just, 6, ABCD);
        Check.due("11 of 11", "0 0 11 0 -1", Steps.client(just));
        FieldNet less = lengthHasCome(12);
        part(less, 8, ABCD);
        part(less, 9, ABCD);
        part(less, 6, ABCD);
        Check.due("11 of 12", "1 0 0 2 5", Steps.client(less));
    }

    private static void longTextEndsLate() {
        FieldNet x = lengthHasCome(13);
        part(x, 8, ABCD);
        part(x, 9, ABCD);
        part(x, 8, ABCD);
        Steps.ticks(x, 4);
        Check.due("it wants one more", "1 0 0 2 5", Steps.client(x));
        Steps.ticks(x, 1);
        Check.due("late", "0 7 0 0 -1", Steps.client(x));
        Check.due("text", "ABCDABCDABCD", Steps.text(x));
    }

    private static void othersArePassedOver() {
        int[][] answers = {{0, 8, ABCD}, {5, 8, ABCD}, {8, 8, ABCD}, {10, 8, ABCD}, {-1, 8, ABCD}, {1, 5, 0}, {1, 8, 0},
            {2, 4, 66}, {2, 16, 66}, {3, 4, 9}, {3, 16, 9}, {9, 4, 3}, {9, 16, 3}};
        for (int[] answer : answers) {
            FieldNet x = lengthHasCome(8);
            x.inject(1410, answer[0], answer[1], answer[2]);
            Check.due("the answer alone", 1, x.tick());
            String what = answer[0] + " " + answer[1] + " " + answer[2];
            Check.due(what, "1 0 0 2 5", Steps.client(x));
            Check.due(what + ": no text", "", Steps.text(x));
            Check.due(what + ": no request", "", Steps.pending(x));
            part(x, 8, ABCD);
            Check.due(what + ": the toggle is the same", "ABCD", Steps.text(x));
        }
        for (int id : new int[] {1408, 1409, 1411, 1412, 1413}) {
            FieldNet x = lengthHasCome(8);
            x.inject(id, 4, 8, ABCD);
            x.tick();
            Check.due("of another node", "", Steps.text(x));
        }
    }

    private static void togglesTurnAround() {
        FieldNet x = lengthHasCome(100);
        for (int i = 0; i < 12; i++) {
            part(x, 2 + (i + 1) % 2, 0x2a);
            Check.due("the other toggle", i, Steps.text(x).length());
            part(x, 2 + i % 2, 0x41 + i);
            Check.due("the toggle", i + 1, Steps.text(x).length());
        }
        Check.due("text", "ABCDEFGHIJKL", Steps.text(x));
    }
}
