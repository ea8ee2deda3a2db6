/** Steps that many tests begin with, and pictures of what an object shows. */
final class Steps {
    static final int OFF = 0;
    static final int STOPPED = 4;
    static final int RUNNING = 5;
    static final int PREPARED = 127;
    static final int[] NO_NODES = {0, 5, -1, 100, Integer.MIN_VALUE, Integer.MAX_VALUE};

    private Steps() {
    }

    static void ticks(FieldNet x, int count) {
        for (int i = 0; i < count; i++) {
            x.tick();
        }
    }

    /** Ticks until the bus is empty. */
    static void drain(FieldNet x) {
        for (int i = 0; i < 100 && x.bus(-1, 0) > 0; i++) {
            x.tick();
        }
        Check.due("pending after draining", 0, x.bus(-1, 0));
    }

    /** Has someone else put frames that mean nothing, and that all others go before, until so many are pending. */
    static void fillTo(FieldNet x, int count) {
        for (int i = 0; i < 24 && x.bus(-1, 0) < count; i++) {
            x.inject(2047, 0, 0, 0);
        }
        Check.due("pending after filling", count, x.bus(-1, 0));
    }

    /** A tick whose slots are all disturbed, so that what it puts can be seen on the bus. */
    static void tickWithoutCarrying(FieldNet x) {
        Check.accepted("disturb", x.disturb(3));
        Check.due("carried", 0, x.tick());
        Check.accepted("disturb no more", x.disturb(0));
    }

    static FieldNet withNodesOn(int... numbers) {
        FieldNet x = new FieldNet();
        for (int n : numbers) {
            Check.accepted("power on", x.power(n, true));
        }
        drain(x);
        return x;
    }

    /** Has someone else write to an object, and looks whether it is done. */
    static void write(FieldNet x, int n, int k, int v) {
        Check.accepted("inject write", x.inject(1536 + n, 1, k, v));
        drain(x);
        Check.due("object " + k + " as written", v, x.object(n, k));
    }

    static void command(FieldNet x, int a, int n) {
        Check.accepted("inject command", x.inject(0, a, n, 0));
        drain(x);
    }

    static void run(FieldNet x, int n) {
        command(x, 1, n);
        Check.due("runs", RUNNING, x.state(n));
    }

    /** The code with which the client's write to a node ends. */
    static int codeOfWrite(FieldNet x, int n, int k, int v) {
        Check.accepted("transfer", x.transfer(n, k, true, v));
        x.tick();
        Check.due("idle after the write of " + v + " to " + k, 0, x.client(0));
        return x.client(1);
    }

    /** What node n answers to a request, as "A B C", or "none". */
    static String answerTo(FieldNet x, int n, int a, int b, int c) {
        drain(x);
        Check.accepted("inject request", x.inject(1536 + n, a, b, c));
        carryOne(x);
        String answer = "none";
        for (int i = 0; i < x.bus(-1, 0); i++) {
            if (x.bus(i, 0) == 1408 + n) {
                answer = x.bus(i, 1) + " " + x.bus(i, 2) + " " + x.bus(i, 3);
            }
        }
        drain(x);
        return answer;
    }

    /** A tick that carries one of the pending frames, so that what it calls forth can be seen on the bus. */
    static void carryOne(FieldNet x) {
        Check.accepted("filler", x.inject(127, 0, 0, 0));
        Check.accepted("filler", x.inject(127, 0, 0, 0));
        Check.due("carried", 3, x.tick());
    }

    /** The pending frames as "ID A B C", with ", " between them. */
    static String pending(FieldNet x) {
        StringBuilder all = new StringBuilder();
        for (int i = 0; i < x.bus(-1, 0); i++) {
            all.append(i == 0 ? "" : ", ").append(x.bus(i, 0)).append(' ').append(x.bus(i, 1));
            all.append(' ').append(x.bus(i, 2)).append(' ').append(x.bus(i, 3));
        }
        return all.toString();
    }

    /** The pending frame that was put latest, as "ID A B C". */
    static String latestPending(FieldNet x) {
        int i = x.bus(-1, 0) - 1;
        return x.bus(i, 0) + " " + x.bus(i, 1) + " " + x.bus(i, 2) + " " + x.bus(i, 3);
    }

    static String reports(FieldNet x) {
        StringBuilder all = new StringBuilder();
        for (int i = 0; i < x.report(-1); i++) {
            all.append(i == 0 ? "" : " ").append(x.report(i));
        }
        return all.toString();
    }

    static String client(FieldNet x) {
        StringBuilder all = new StringBuilder();
        for (int k = 0; k <= 4; k++) {
            all.append(k == 0 ? "" : " ").append(x.client(k));
        }
        return all.toString();
    }

    static String text(FieldNet x) {
        StringBuilder all = new StringBuilder();
        for (int i = 0; x.text(i) != -1; i++) {
            all.append((char) x.text(i));
        }
        return all.toString();
    }

    static String objects(FieldNet x, int n) {
        StringBuilder all = new StringBuilder();
        for (int k = 0; k <= 16; k++) {
            all.append(k == 0 ? "" : " ").append(x.object(n, k));
        }
        return all.toString();
    }

    /** All that the methods that only answer can show. */
    static String picture(FieldNet x) {
        StringBuilder all = new StringBuilder();
        for (int n = 1; n <= 4; n++) {
            all.append(objects(x, n)).append(" s").append(x.state(n)).append(" p").append(x.phase(n)).append('\n');
        }
        all.append(client(x)).append('\n').append(text(x)).append('\n').append(reports(x)).append('\n');
        for (int k = 0; k <= 3; k++) {
            all.append(x.bus(-1, k)).append(' ');
        }
        return all.append('\n').append(pending(x)).toString();
    }
}
