/** Promise 18: report. */
public final class ReportTest {
    public static void main(String[] args) {
        numbers();
        emergencies();
        atMostEighty();
        everyKind();
        emptyBefore();
        eightiethIsKeptAndTheNextDropped();
        droppedReportsLeaveTheRestToHappen();
        kindsAndNodes();
        Check.end();
    }

    private static void numbers() {
        FieldNet x = new FieldNet();
        Check.due("none", -2, x.report(0));
        Check.due("how many", 0, x.report(-1));
        x.power(3, true);
        Steps.ticks(x, 1);
        Check.due("how many", 1, x.report(-1));
        Check.due("first", 1300, x.report(0));
        for (int i : new int[] {-2, 1, 79, 80, Integer.MIN_VALUE, Integer.MAX_VALUE}) {
            Check.due("report(" + i + ")", -2, x.report(i));
        }
    }

    private static void emergencies() {
        FieldNet x = new FieldNet();
        int[] codes = {0, 63, 64, 65, -1, 127, Integer.MIN_VALUE};
        int[] details = {0, 63, 0, 1, 63, 63, 0};
        for (int i = 0; i < codes.length; i++) {
            int n = i % 4 + 1;
            x.inject(128 + n, codes[i], 9, 9);
            Steps.ticks(x, 1);
            Check.due("emergency " + codes[i], 5000 + 100 * n + details[i], x.report(i));
        }
    }

    private static void atMostEighty() {
        FieldNet x = new FieldNet();
        for (int i = 0; i < 90; i++) {
            x.inject(129, i % 64, 0, 0);
            Steps.ticks(x, 1);
            Check.due("how many", Math.min(i + 1, 80), x.report(-1));
        }
        for (int i = 0; i < 80; i++) {
            Check.due("report " + i, 5100 + i % 64, x.report(i));
        }
        Check.due("dropped", -2, x.report(80));
        x.expect(1, 1001, 0);
        x.power(1, true);
        Steps.ticks(x, 3);
        Check.due("the boot goes on all the same", 4, x.phase(1));
        Check.due("how many", 80, x.report(-1));
    }

    private static void everyKind() {
        FieldNet x = new FieldNet();
        x.expect(1, 1001, 2);
        x.expect(2, 1, 0);
        x.power(1, true);
        x.power(2, true);
        Steps.ticks(x, 5);
        x.inject(1793, 5, 0, 0);
        x.fail(2, 31);
        Steps.ticks(x, 3);
        Check.due("reports", "1100 1200 2100 3205 5231 4100", Steps.reports(x));
    }

    private static void emptyBefore() {
        FieldNet x = new FieldNet();
        for (int i : new int[] {Integer.MIN_VALUE, -2, 0, 1, 79, 80, Integer.MAX_VALUE}) {
            Check.due("report(" + i + ")", -2, x.report(i));
        }
        Check.due("how many", 0, x.report(-1));
    }

    /** So many reports of emergencies, and nothing pending. */
    private static FieldNet withReports(int count) {
        FieldNet x = new FieldNet();
        for (int i = 0; i < count; i++) {
            x.inject(132, 1, 0, 0);
            if (i % 3 == 2) {
                x.tick();
            }
        }
        Steps.drain(x);
        Check.due("how many", count, x.report(-1));
        return x;
    }

    /** What brings one report of a kind, of node 2, at the fewest ticks; other reports may come before it. */
    private static void bring(FieldNet x, int kind) {
        if (kind == 1) {
            x.inject(1794, 0, 0, 0);
            Steps.ticks(x, 1);
        } else if (kind == 2 || kind == 3) {
            x.expect(2, kind == 2 ? 1002 : 1, 0);
            x.power(2, true);
            Steps.ticks(x, 3);
        } else if (kind == 4) {
            x.expect(2, -1, 1);
            x.inject(1794, 5, 0, 0);
            Steps.ticks(x, 2);
        } else {
            x.inject(130, 63, 0, 0);
            Steps.ticks(x, 1);
        }
    }

    private static void eightiethIsKeptAndTheNextDropped() {
        int[] due = {0, 1200, 2200, 3205, 4200, 5263};
        for (int kind = 1; kind <= 5; kind++) {
            int before = kind == 2 || kind == 3 ? 1 : 0;
            FieldNet x = withReports(79 - before);
            bring(x, kind);
            Check.due("how many", 80, x.report(-1));
            Check.due("the 80th", due[kind], x.report(79));
            Check.due("no 81st", -2, x.report(80));
            FieldNet y = withReports(80 - before);
            bring(y, kind);
            Check.due("how many", 80, y.report(-1));
            Check.due("the 80th stays", before == 1 ? 1200 : 5401, y.report(79));
            Check.due("the first stays", 5401, y.report(0));
            Check.due("no 81st", -2, y.report(80));
        }
    }

    private static void droppedReportsLeaveTheRestToHappen() {
        FieldNet x = withReports(80);
        bring(x, 3);
        Check.due("phase", 5, x.phase(2));
        FieldNet y = withReports(80);
        bring(y, 2);
        Check.due("phase", 4, y.phase(2));
        Check.due("state", Steps.RUNNING, y.state(2));
        y.inject(1794, 0, 0, 0);
        Steps.ticks(y, 1);
        Check.due("phase", 1, y.phase(2));
    }

    private static void kindsAndNodes() {
        for (int n = 1; n <= 4; n++) {
            FieldNet x = new FieldNet();
            x.expect(n, 1000 + n, 9);
            x.power(n, true);
            Steps.ticks(x, 3);
            x.inject(1792 + n, 5, 0, 0);
            Steps.ticks(x, 10);
            x.fail(n, 31);
            Steps.ticks(x, 1);
            x.expect(n, 9999, 0);
            Steps.command(x, 129, n);
            Steps.ticks(x, 3);
            int hundreds = 100 * n;
            Check.due("reports", (1000 + hundreds) + " " + (2000 + hundreds) + " " + (4000 + hundreds) + " "
                    + (5031 + hundreds) + " " + (1000 + hundreds) + " " + (3005 + hundreds), Steps.reports(x));
        }
    }
}
