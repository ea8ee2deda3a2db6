/** Promise 6: expect. */
public final class ExpectTest {
    public static void main(String[] args) {
        edges();
        wrongInputs();
        onlyExpectedNodesBoot();
        listBecomesEmpty();
        phaseAndHeardStay();
        timeWithoutExpecting();
        identityIsComparedAsItIsThen();
        noLongerExpectedWhileItWaits();
        Check.end();
    }

    private static void edges() {
        FieldNet x = new FieldNet();
        for (int n = 1; n <= 4; n++) {
            Check.accepted("lowest", x.expect(n, -1, 0));
            Check.refused("-1 is not to expect", x.configure(n, 2, 1));
            Check.accepted("identity 0", x.expect(n, 0, 50));
            Check.accepted("0 is to expect", x.configure(n, 2, 1));
            Check.accepted("highest", x.expect(n, 9999, 50));
            Check.accepted("again", x.expect(n, 9999, 50));
        }
    }

    private static void wrongInputs() {
        FieldNet x = new FieldNet();
        for (int n : Steps.NO_NODES) {
            Check.refused("node " + n, x.expect(n, 5, 5));
        }
        x.expect(1, 1001, 4);
        x.configure(1, 12, 1);
        for (int id : new int[] {-2, 10000, Integer.MIN_VALUE, Integer.MAX_VALUE}) {
            Check.refused("identity " + id, x.expect(1, id, 5));
        }
        for (int time : new int[] {-1, 51, Integer.MIN_VALUE, Integer.MAX_VALUE}) {
            Check.refused("time " + time, x.expect(1, 5, time));
        }
        x.power(1, true);
        Steps.ticks(x, 4);
        Check.due("what was expected before", 4, x.phase(1));
        Check.due("and the list of before", 1, x.object(1, 12));
    }

    private static void onlyExpectedNodesBoot() {
        FieldNet x = new FieldNet();
        x.expect(2, 1002, 0);
        x.expect(3, 1003, 0);
        x.expect(3, -1, 0);
        for (int n = 1; n <= 4; n++) {
            x.power(n, true);
        }
        Steps.ticks(x, 10);
        Check.due("not expected", 0, x.phase(1));
        Check.due("expected", 4, x.phase(2));
        Check.due("no longer expected", 0, x.phase(3));
        Check.due("reports", "1100 1200 1300 2200 1400", Steps.reports(x));
        Check.due("not expected", Steps.PREPARED, x.state(1));
        Check.due("expected", Steps.RUNNING, x.state(2));
    }

    private static void listBecomesEmpty() {
        FieldNet x = new FieldNet();
        x.expect(1, 1001, 0);
        x.configure(1, 12, 5);
        x.configure(1, 13, 6);
        x.configure(1, 14, 7);
        x.expect(1, 1001, 0);
        x.configure(1, 15, 8);
        x.power(1, true);
        Steps.ticks(x, 10);
        Check.due("objects", "1001 0 0 0 0 0 0 0 0 0 0 0 0 0 0 8 11", Steps.objects(x, 1));
        Check.due("phase", 4, x.phase(1));
    }

    private static void phaseAndHeardStay() {
        FieldNet x = new FieldNet();
        x.expect(1, 1001, 0);
        x.power(1, true);
        Steps.ticks(x, 5);
        x.inject(1793, 5, 0, 0);
        Steps.ticks(x, 1);
        x.expect(1, -1, 3);
        Check.due("phase stays", 4, x.phase(1));
        Steps.ticks(x, 2);
        Check.due("not yet", "1100 2100", Steps.reports(x));
        Steps.ticks(x, 1);
        Check.due("what was heard stays", "1100 2100 4100", Steps.reports(x));
        Steps.command(x, 129, 1);
        Check.due("a reset changes no phase now", 4, x.phase(1));
        Check.due("but is reported", "1100 2100 4100 1100", Steps.reports(x));
    }

    private static void timeWithoutExpecting() {
        FieldNet x = new FieldNet();
        x.expect(2, -1, 1);
        x.inject(1794, 127, 0, 0);
        Steps.ticks(x, 1);
        Check.due("heard", "", Steps.reports(x));
        Steps.ticks(x, 1);
        Check.due("missed", "4200", Steps.reports(x));
        Steps.ticks(x, 60);
        Check.due("once", "4200", Steps.reports(x));
        x.expect(2, -1, 0);
        x.inject(1794, 127, 0, 0);
        Steps.ticks(x, 60);
        Check.due("time 0: never", "4200", Steps.reports(x));
        x.expect(2, -1, 50);
        Steps.ticks(x, 1);
        Check.due("long ago", "4200 4200", Steps.reports(x));
    }

    private static void identityIsComparedAsItIsThen() {
        FieldNet x = new FieldNet();
        x.expect(1, 1, 0);
        x.power(1, true);
        Steps.ticks(x, 1);
        x.disturb(3);
        Steps.ticks(x, 1);
        Check.due("the read is under way", 2, x.phase(1));
        x.expect(1, 1001, 0);
        Steps.ticks(x, 2);
        Check.due("phase", 4, x.phase(1));
    }

    private static void noLongerExpectedWhileItWaits() {
        FieldNet x = new FieldNet();
        x.expect(1, 1001, 0);
        x.power(1, true);
        Steps.ticks(x, 1);
        x.expect(1, -1, 0);
        Check.due("phase stays", 1, x.phase(1));
        Steps.ticks(x, 1);
        Check.due("the boot goes on, to another identity", 5, x.phase(1));
        Check.due("reports", "1100 3105", Steps.reports(x));
    }
}
