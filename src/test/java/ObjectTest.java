/** Promise 13: object. */
public final class ObjectTest {
    public static void main(String[] args) {
        noSuchNodeOrObject();
        nameLengths();
        Check.end();
    }

    private static void noSuchNodeOrObject() {
        FieldNet x = Steps.withNodesOn(1, 2);
        for (int n : Steps.NO_NODES) {
            for (int k = 0; k <= 16; k++) {
                Check.due("object(" + n + ", " + k + ")", -1, x.object(n, k));
            }
        }
        for (int n = 1; n <= 4; n++) {
            for (int k : new int[] {-1, 17, 31, Integer.MIN_VALUE, Integer.MAX_VALUE}) {
                Check.due("object(" + n + ", " + k + ")", -1, x.object(n, k));
            }
            Check.due("identity", 1000 + n, x.object(n, 0));
            Check.due("last object", 0, x.object(n, 15));
        }
    }

    private static void nameLengths() {
        FieldNet x = new FieldNet();
        for (int n = 1; n <= 4; n++) {
            Check.due("name", 11, x.object(n, 16));
            x.identify(n, 0);
            Check.due("name", 8, x.object(n, 16));
            x.identify(n, 12);
            x.power(n, true);
            Check.due("name", 9, x.object(n, 16));
        }
    }
}
