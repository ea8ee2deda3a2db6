/** Promise 10: inject. */
public final class InjectTest {
    public static void main(String[] args) {
        putsAFrame();
        wrongInputs();
        fullBus();
        goesToAllStations();
        unknownIdsDoNothing();
        idsNextToThoseOfNodes();
        framesThatAreForOthers();
        Check.end();
    }

    private static void putsAFrame() {
        FieldNet x = new FieldNet();
        Check.accepted("lowest", x.inject(0, Integer.MIN_VALUE, -1, Integer.MAX_VALUE));
        Check.accepted("highest", x.inject(2047, 1, 2, 3));
        Check.accepted("the same again", x.inject(2047, 1, 2, 3));
        Check.due("pending", "0 -2147483648 -1 2147483647, 2047 1 2 3, 2047 1 2 3", Steps.pending(x));
    }

    private static void wrongInputs() {
        FieldNet x = new FieldNet();
        for (int id : new int[] {-1, 2048, Integer.MIN_VALUE, Integer.MAX_VALUE}) {
            Check.refused("ID " + id, x.inject(id, 0, 0, 0));
        }
        Check.due("pending", 0, x.bus(-1, 0));
        Check.due("lost", 0, x.bus(-1, 1));
    }

    private static void fullBus() {
        FieldNet x = new FieldNet();
        for (int i = 0; i < 24; i++) {
            Check.accepted("frame " + i, x.inject(1000 + i, i, 0, 0));
        }
        Check.refused("one more", x.inject(0, 0, 0, 0));
        Check.due("pending", 24, x.bus(-1, 0));
        Check.due("a refused one is not lost", 0, x.bus(-1, 1));
        Check.due("carried", 3, x.tick());
        for (int i = 0; i < 3; i++) {
            Check.accepted("room again", x.inject(0, 0, 0, 0));
        }
        Check.refused("one more", x.inject(0, 0, 0, 0));
    }

    private static void goesToAllStations() {
        FieldNet x = Steps.withNodesOn(1, 2, 3, 4);
        x.inject(0, 1, 0, 0);
        Steps.drain(x);
        for (int n = 1; n <= 4; n++) {
            Check.due("command to " + n, Steps.RUNNING, x.state(n));
        }
        int before = x.report(-1);
        x.inject(132, 64 + 5, 0, 0);
        Steps.drain(x);
        Check.due("emergency to the master", 5405, x.report(before));
        x.inject(1540, 1, 12, 6);
        Steps.drain(x);
        Check.due("request to a node", 6, x.object(4, 12));
        x.transfer(3, 20, false, 0);
        x.inject(1411, 2, 20, 9);
        Check.due("the answer is first, then the request and its answer", 3, x.tick());
        Check.due("answer to the client", "0 0 9 0 -1", Steps.client(x));
    }

    private static void unknownIdsDoNothing() {
        FieldNet x = Steps.withNodesOn(1, 2, 3, 4);
        Steps.run(x, 1);
        Steps.write(x, 2, 3, 102);
        x.transfer(1, 31, false, 0);
        Steps.drain(x);
        String before = allButTheBus(x);
        int[] ids = {1, 127, 133, 383, 384, 389, 1407, 1408, 1413, 1535, 1536, 1541, 1791, 1792, 1797, 2047};
        for (int id : ids) {
            for (int a = 0; a <= 3; a++) {
                x.inject(id, a, 0, 7);
                Check.due("carried", 1, x.tick());
            }
        }
        Check.due("nothing has changed", before, allButTheBus(x));
    }

    private static String allButTheBus(FieldNet x) {
        StringBuilder all = new StringBuilder(Steps.client(x)).append(' ').append(Steps.reports(x));
        for (int n = 1; n <= 4; n++) {
            all.append(' ').append(Steps.objects(x, n)).append(' ').append(x.state(n)).append(' ').append(x.phase(n));
        }
        return all.toString();
    }

    /** All nodes run, each watches and has as its source the next one, and the client is busy with node 1. */
    private static FieldNet eagerListeners() {
        FieldNet x = Steps.withNodesOn(1, 2, 3, 4);
        for (int n = 1; n <= 4; n++) {
            int m = n % 4 + 1;
            Steps.write(x, n, 3, 100 * m + 50);
            Steps.write(x, n, 7, 10000 * m + 1213);
            Steps.write(x, n, 4, 4);
        }
        Steps.command(x, 1, 0);
        x.power(1, false);
        x.transfer(1, 5, false, 0);
        Steps.drain(x);
        return x;
    }

    private static void idsNextToThoseOfNodes() {
        for (int id : new int[] {1, 127, 133, 383, 384, 389, 1407, 1408, 1413, 1535, 1536, 1541, 1791, 1792, 1797, 2047}) {
            FieldNet x = eagerListeners();
            String before = allButTheBus(x);
            for (int a : new int[] {0, 1, 2, 129}) {
                x.inject(id, a, 5, 7);
            }
            Check.due("three carried", 3, x.tick());
            Check.due("ID " + id, before, allButTheBus(x));
            Check.due("none is called forth", id + " 129 5 7", Steps.pending(x));
            Check.due("the last", 1, x.tick());
            Check.due("ID " + id, before, allButTheBus(x));
            Check.due("pending", "", Steps.pending(x));
            Steps.ticks(x, 51);
            Check.due("no beat was heard", 0, x.object(2, 1) + x.object(3, 1) + x.object(4, 1));
        }
    }

    private static void framesThatAreForOthers() {
        FieldNet x = eagerListeners();
        String before = allButTheBus(x);
        x.inject(1409, 1, 5, 3);
        x.inject(1410, 2, 5, 3);
        x.inject(1411, 9, 5, 3);
        Check.due("answers that nobody waits for", 3, x.tick());
        x.inject(1537, 1, 12, 3);
        x.inject(385, 0, 3, 3);
        x.inject(1793, 5, 3, 3);
        Check.due("a request to one that is off", 3, x.tick());
        Check.due("only the node behind takes the sample", before.replace("1004 0 0 150 4 0 0 11213 0 0 0 0 0 0",
                "1004 0 0 150 4 0 0 11213 0 0 0 0 3 3"), allButTheBus(x));
        Check.due("pending", "", Steps.pending(x));
    }
}
