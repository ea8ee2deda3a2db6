/** Promise 18: report. */
public final class ReportTest {
    public static void main(String[] args) {
        numbers();
        emergencies();
        atMostEighty();
        everyKind();
        Check.end();
    }

    private static void numbers() {
        FieldNet x = new FieldNet();
        Check.due("none", -2, x.report(0));
        Check.due("how many", 0, x.report(-1));
        x.power(3, true);
        Steps.ticks(x, 1);
        Check.due("how many", 1, x.report(-1));
        Check.due("first", 1300, x.report(0));
        for (int i : new int[] {-2, 1, 79, 80, Integer.MIN_VALUE, Integer.MAX_VALUE}) {
            Check.due("report(" + i + ")", -2, x.report(i));
        }
    }

    private static void emergencies() {
        FieldNet x = new FieldNet();
        int[] codes = {0, 63, 64, 65, -1, 127, Integer.MIN_VALUE};
        int[] details = {0, 63, 0, 1, 63, 63, 0};
        for (int i = 0; i < codes.length; i++) {
            int n = i % 4 + 1;
            x.inject(128 + n, codes[i], 9, 9);
            Steps.ticks(x, 1);
            Check.due("emergency " + codes[i], 5000 + 100 * n + details[i], x.report(i));
        }
    }

    private static void atMostEighty() {
        FieldNet x = new FieldNet();
        for (int i = 0; i < 90; i++) {
            x.inject(129, i % 64, 0, 0);
            Steps.ticks(x, 1);
            Check.due("how many", Math.min(i + 1, 80), x.report(-1));
        }
        for (int i = 0; i < 80; i++) {
            Check.due("report " + i, 5100 + i % 64, x.report(i));
        }
        Check.due("dropped", -2, x.report(80));
        x.expect(1, 1001, 0);
        x.power(1, true);
        Steps.ticks(x, 3);
        Check.due("the boot goes on all the same", 4, x.phase(1));
        Check.due("how many", 80, x.report(-1));
    }

    private static void everyKind() {
        FieldNet x = new FieldNet();
        x.expect(1, 1001, 2);
        x.expect(2, 1, 0);
        x.power(1, true);
        x.power(2, true);
        Steps.ticks(x, 5);
        x.inject(1793, 5, 0, 0);
        x.fail(2, 31);
        Steps.ticks(x, 3);
        Check.due("reports", "1100 1200 2100 3205 5231 4100", Steps.reports(x));
    }
}
