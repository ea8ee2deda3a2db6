import java.util.Random;

/**
 * All promises: a refused call changes nothing, nor does one that only asks. Of two objects one gets every call of a
 * random run, the other only those that were not refused; in the end both must show the same. No call may throw.
 */
public final class RefusedCallsTest {
    private static final int RUNS = 3000;
    /** With the questions in between and the picture at the end an object gets fewer than 512 calls. */
    private static final int CALLS = 70;
    private static final int[] EDGES = {
        Integer.MIN_VALUE, -2, -1, 0, 1, 2, 3, 4, 5, 7, 8, 9, 10, 11, 12, 15, 16, 17, 20, 21, 24, 31, 32, 50, 51, 80,
        128, 129, 203, 808, 1009, 1001, 1002, 1003, 1004, 9999, 10000, 21213, 2047, 2048, Integer.MAX_VALUE
    };

    private final Random random;
    private int refused;

    private RefusedCallsTest(long seed) {
        random = new Random(seed);
    }

    public static void main(String[] args) {
        int refused = 0;
        for (int run = 0; run < RUNS; run++) {
            RefusedCallsTest test = new RefusedCallsTest(run);
            test.run();
            refused += test.refused;
        }
        Check.due("enough calls were refused", true, refused > RUNS * CALLS / 20);
        Check.due("and enough were not", true, refused < RUNS * CALLS * 3 / 4);
        Check.end();
    }

    private void run() {
        FieldNet all = new FieldNet();
        FieldNet some = new FieldNet();
        for (int i = 0; i < CALLS; i++) {
            int kind = random.nextInt(16);
            int[] numbers = numbersFor(kind);
            if (call(all, kind, numbers)) {
                call(some, kind, numbers);
            } else {
                refused++;
            }
            askWildly(all);
        }
        Check.due("the same in the end", Steps.picture(all), Steps.picture(some));
    }

    private int[] numbersFor(int kind) {
        int[] numbers = {any(), any(), any(), any()};
        if (random.nextInt(6) > 0) {
            numbers[0] = 1 + random.nextInt(4);
        }
        if (kind == 9) {
            int[] ids = {0, 128, 129, 385, 1409, 1537, 1793};
            numbers[0] = random.nextInt(8) > 0 ? ids[random.nextInt(ids.length)] + random.nextInt(4) : any();
            numbers[1] = random.nextInt(5);
        }
        return numbers;
    }

    private int any() {
        return random.nextInt(8) == 0 ? random.nextInt() : EDGES[random.nextInt(EDGES.length)];
    }

    private static boolean call(FieldNet x, int kind, int[] v) {
        switch (kind) {
            case 0:
                return x.power(v[0], v[1] >= 2);
            case 1:
                return x.identify(v[0], v[1]);
            case 2:
                return x.input(v[0], v[1], v[2]);
            case 3:
                return x.fail(v[0], v[1]);
            case 4:
                return x.expect(v[0], v[1] == v[2] ? -1 : 1000 + v[0], v[2]);
            case 5:
                return x.configure(v[0], v[1], v[2]);
            case 6:
                return x.transfer(v[0], v[1], v[2] > 2, v[3]);
            case 7:
                return x.sync(v[1]);
            case 8:
                return x.disturb(v[1]);
            case 9:
            case 10:
                return x.inject(v[0], v[1], v[2], v[3]);
            default:
                x.tick();
                return true;
        }
    }

    private void askWildly(FieldNet x) {
        switch (random.nextInt(7)) {
            case 0:
                x.object(any(), any());
                break;
            case 1:
                x.state(any());
                break;
            case 2:
                x.phase(any());
                break;
            case 3:
                x.client(any());
                break;
            case 4:
                x.text(any());
                break;
            case 5:
                x.report(any());
                break;
            default:
                x.bus(any(), any());
                break;
        }
    }
}
