import java.util.Set;
import java.util.TreeSet;

/** What may be written to each object over the bus: every value near the ranges, and values far from them. */
public final class WriteRangeTest {
    private static final int TAKEN = 0;
    private static final int[] FAR = {
        Integer.MIN_VALUE, Integer.MIN_VALUE + 1, -2147473646, -1000000, 65536, 65586, 1000000, 16777216,
        Integer.MAX_VALUE - 1, Integer.MAX_VALUE
    };
    /** An object of the class is good for 512 calls; a write takes five. */
    private static final int WRITES_OF_ONE = 95;

    public static void main(String[] args) {
        period();
        watch();
        type();
        pause();
        map();
        source();
        outputs();
        nothingElse();
        Check.end();
    }

    private static void period() {
        look(1, 2, -100, 300, range(0, 50));
    }

    private static void type() {
        look(2, 4, -100, 300, range(0, 4));
    }

    private static void pause() {
        look(3, 5, -100, 300, range(0, 20));
    }

    private static void watch() {
        for (int n = 1; n <= 4; n++) {
            Set<Integer> may = range(0, 0);
            for (int m = 1; m <= 4; m++) {
                for (int t = 1; t <= 50 && m != n; t++) {
                    may.add(100 * m + t);
                }
            }
            Check.due("how many", 151, may.size());
            look(n, 3, -700, 1200, may);
        }
    }

    private static void map() {
        Set<Integer> may = range(0, 0);
        for (int x = 8; x <= 11; x++) {
            for (int y = 8; y <= 11; y++) {
                may.add(100 * x + y);
            }
        }
        Check.due("how many", 17, may.size());
        look(4, 6, -1300, 2500, may);
    }

    private static void source() {
        for (int n = 1; n <= 4; n++) {
            Set<Integer> may = range(0, 0);
            for (int m = 1; m <= 4; m++) {
                for (int x = 12; x <= 15 && m != n; x++) {
                    for (int y = 12; y <= 15; y++) {
                        may.add(10000 * m + 100 * x + y);
                    }
                }
            }
            Check.due("how many", 49, may.size());
            look(n, 7, -2000, 56000, may);
            look(n, 7, -45000, -38000, range(1, 0));
        }
    }

    private static void outputs() {
        for (int k = 12; k <= 15; k++) {
            FieldNet x = Steps.withNodesOn(1);
            for (int v : new int[] {0, 1, -1, 50, 51, 10000}) {
                Check.due("write " + v, TAKEN, Steps.codeOfWrite(x, 1, k, v));
                Check.due("object " + k, v, x.object(1, k));
            }
            for (int v : FAR) {
                Check.due("write " + v, TAKEN, Steps.codeOfWrite(x, 1, k, v));
                Check.due("object " + k, v, x.object(1, k));
            }
        }
    }

    private static void nothingElse() {
        for (int k : new int[] {0, 1, 8, 9, 10, 11, 16}) {
            FieldNet x = Steps.withNodesOn(1);
            for (int v = -2; v <= 52; v++) {
                Check.due("write " + v + " to " + k, 2, Steps.codeOfWrite(x, 1, k, v));
            }
            Check.due("the value that it has", 2, Steps.codeOfWrite(x, 1, k, x.object(1, k)));
            Check.due("objects", "1001 0 0 0 0 0 0 0 0 0 0 0 0 0 0 0 11", Steps.objects(x, 1));
        }
    }

    private static Set<Integer> range(int low, int high) {
        Set<Integer> all = new TreeSet<>();
        for (int v = low; v <= high; v++) {
            all.add(v);
        }
        return all;
    }

    private static void look(int n, int k, int low, int high, Set<Integer> may) {
        FieldNet x = Steps.withNodesOn(n);
        int writes = 0;
        for (int v = low; v <= high; v++) {
            if (++writes % WRITES_OF_ONE == 0) {
                x = Steps.withNodesOn(n);
            }
            lookAt(x, n, k, v, may.contains(v));
        }
        x = Steps.withNodesOn(n);
        for (int v : FAR) {
            lookAt(x, n, k, v, false);
        }
    }

    private static void lookAt(FieldNet x, int n, int k, int v, boolean may) {
        String due = may ? "code 0, object " + v : "code 3, object " + x.object(n, k);
        x.transfer(n, k, true, v);
        x.tick();
        Check.due("node " + n + ", write of " + v + " to " + k, due, "code " + x.client(1) + ", object " + x.object(n, k));
    }
}
