/** Promise 11: disturb. */
public final class DisturbTest {
    public static void main(String[] args) {
        slotsAreDisturbed();
        wrongInputs();
        inPlaceOfWhatWasSaidBefore();
        onlySlotsWithAFrame();
        Check.end();
    }

    private static FieldNet withFrames(int count) {
        FieldNet x = new FieldNet();
        for (int i = 0; i < count; i++) {
            x.inject(2000, i, 0, 0);
        }
        return x;
    }

    private static void slotsAreDisturbed() {
        for (int k = 0; k <= 9; k++) {
            FieldNet x = withFrames(12);
            Check.accepted("disturb " + k, x.disturb(k));
            int carried = 0;
            for (int t = 1; t <= 4; t++) {
                int got = x.tick();
                int due = Math.max(0, Math.min(3, 3 * t - k));
                Check.due("disturb " + k + ", tick " + t, due, got);
                carried += got;
            }
            Check.due("errors", k, x.bus(-1, 2));
            Check.due("frames stay", 12 - carried, x.bus(-1, 0));
            Check.due("the first was carried first", carried, x.bus(0, 1) == -1 ? 12 : x.bus(0, 1));
            Check.due("none is lost", 0, x.bus(-1, 1));
        }
    }

    private static void wrongInputs() {
        FieldNet x = withFrames(6);
        x.disturb(2);
        for (int k : new int[] {-1, 10, Integer.MIN_VALUE, Integer.MAX_VALUE}) {
            Check.refused("disturb " + k, x.disturb(k));
        }
        Check.due("as before", 1, x.tick());
        Check.due("as before", 3, x.tick());
    }

    private static void inPlaceOfWhatWasSaidBefore() {
        FieldNet x = withFrames(9);
        x.disturb(9);
        x.disturb(1);
        Check.due("one", 2, x.tick());
        x.disturb(9);
        Check.due("all", 0, x.tick());
        x.disturb(0);
        Check.due("none", 3, x.tick());
        Check.due("errors", 4, x.bus(-1, 2));
    }

    private static void onlySlotsWithAFrame() {
        FieldNet x = withFrames(0);
        x.disturb(2);
        Check.due("no frame", 0, x.tick());
        Check.due("no error", 0, x.bus(-1, 2));
        x.inject(0, 0, 0, 0);
        Check.due("two of three slots", 1, x.tick());
        Check.due("errors", 2, x.bus(-1, 2));
        x.inject(0, 0, 0, 0);
        Check.due("no longer", 1, x.tick());
    }
}
