/** Promises 20 to 23: marks, which kinds fit them, days by a seed. */
public final class MarksTest {
    private static final int ALL = 31;

    public static void main(String[] args) {
        mark();
        then();
        fits();
        fitsByTheHour();
        days();
        daysByDraws();
        daysRefused();
        Check.end();
    }

    private static void mark() {
        LowWater x = Check.shore("00000000;0;12");
        Check.due("20 none were there", x.mark(0, 3), 0);
        Check.due("20 one was there", x.mark(99, 7), 1);
        Check.due("20 one mark", x.count(6), 1);
        x.then(7);
        x.then(7);
        Check.due("20 three were there", x.mark(5, 0), 3);
        Check.due("20 others are gone", x.count(6), 1);
        Check.refused("20 hour -1", x, Check.OUTSIDE, o -> o.mark(-1, 0));
        Check.refused("20 hour 100", x, Check.OUTSIDE, o -> o.mark(100, 0));
        Check.refused("20 cell -1", x, Check.UNKNOWN, o -> o.mark(0, -1));
        Check.refused("20 cell -2", x, Check.UNKNOWN, o -> o.mark(0, -2));
        Check.refused("20 cell 8", x, Check.UNKNOWN, o -> o.mark(0, 8));
        Check.refused("20 OUTSIDE ahead of UNKNOWN", x, Check.OUTSIDE, o -> o.mark(100, 8));
        Check.due("20 UNKNOWN ahead of STATE", new LowWater().mark(0, 8), Check.UNKNOWN);
        Check.due("20 OUTSIDE ahead of STATE", new LowWater().mark(100, 0), Check.OUTSIDE);
    }

    private static void then() {
        LowWater x = Check.shore("00000000;0;12");
        Check.refused("21 not begun", x, Check.STATE, o -> o.then(0));
        Check.refused("21 STATE ahead of UNKNOWN", x, Check.STATE, o -> o.then(8));
        x.mark(0, 0);
        Check.refused("21 cell -1", x, Check.UNKNOWN, o -> o.then(-1));
        Check.refused("21 cell -3", x, Check.UNKNOWN, o -> o.then(-3));
        Check.refused("21 cell 8", x, Check.UNKNOWN, o -> o.then(8));
        Check.due("21 two", x.then(-2), 2);
        for (int n = 3; n <= 8; n++) {
            Check.due("21 more", x.then(n - 1), n);
        }
        Check.refused("21 FULL", x, Check.FULL, o -> o.then(0));
        Check.refused("21 FULL, OUT", x, Check.FULL, o -> o.then(-2));
        Check.refused("21 UNKNOWN ahead of FULL", x, Check.UNKNOWN, o -> o.then(8));
        Check.due("21 eight", x.count(6), 8);
    }

    private static void fitting(String what, String shore, int hour, int want, int... cells) {
        LowWater x = Check.shore(shore);
        x.mark(hour, cells[0]);
        for (int i = 1; i < cells.length; i++) {
            x.then(cells[i]);
        }
        long before = x.digest();
        Check.due("22 " + what, x.fits(), want);
        Check.due("22 " + what + " changes nothing", x.digest(), before);
    }

    private static void fits() {
        String flood = "00000000;0;123";
        fitting("one mark", flood, 0, ALL, 3);
        fitting("THING", flood, 0, 1, 3, 4);
        fitting("CORK", flood, 0, 2, 3, 5);
        fitting("HEAVY or RING", flood, 0, 4 + 8, 3, 3);
        fitting("BOTTLE", flood, 0, 16, 3, 6);
        fitting("none", flood, 0, 0, 3, 7);
        fitting("none downwards", flood, 0, 0, 3, 2);
        fitting("at the end all", flood, 0, ALL, 7, 7);
        fitting("at the end, THING, CORK, BOTTLE", flood, 0, 1 + 2 + 16, 6, 7);
        fitting("THING twice", flood, 0, 1, 3, 4, 5);
        fitting("not the second", flood, 0, 0, 3, 4, 6);
        fitting("not the first", flood, 0, 0, 3, 5, 6);
        fitting("HEAVY", flood, 0, 4, 3, 3, 3, 2);
        fitting("RING", flood, 0, 8, 3, 3, 3, 3);
        fitting("OUT", flood, 2, 1 + 2 + 4 + 16, 0, -2);
        fitting("OUT stays", flood, 2, 16, 2, -2, -2, -2);
        fitting("OUT never comes back", flood, 2, 0, 2, -2, 2);
        fitting("eight hours", flood, 0, 8, 5, 5, 5, 5, 5, 5, 5, 5);
        LowWater x = Check.shore(flood);
        Check.refused("22 not begun", x, Check.STATE, LowWater::fits);
    }

    private static void fitsByTheHour() {
        fitting("from hour 2 on", "00000000;0;123", 2, 1 + 4, 3, 2);
        fitting("from hour 99 on", "00000000;0;1234", 99, 2, 3, 1);
        LowWater x = Check.shore("00020000;0;12");
        x.mark(0, 1);
        x.then(3);
        Check.due("22 BOTTLE stops on dry mud", x.fits(), 2 + 16);
        x.hour();
        Check.due("22 by the told hour", x.fits(), 2 + 16);
        x.barge(3);
        Check.due("22 THE BARGE as it is", x.fits(), 2);
    }

    private static void days(String what, LowWater x, int hours, int seed, int... want) {
        for (int i = 0; i < 4; i++) {
            long before = x.digest();
            Check.due("23 " + what + " " + i, x.days(hours, seed, i), want[i]);
            Check.due("23 " + what + " changes nothing", x.digest(), before);
        }
    }

    private static void days() {
        LowWater x = Check.shore("00000000;0;21");
        days("without THINGS nothing is drawn", x, 60, 77, 0, 0, 0, 77);
        days("the highest seed", x, 1, Integer.MAX_VALUE, 0, 0, 0, Integer.MAX_VALUE);
        days("the least seed", x, 1, 0, 0, 0, 0, 0);
        x.thing(3, 5, 9);
        x.thing(3, 7, 9);
        // No CELL is DRY, and a RING stays: only the SEED goes on.
        days("WET", x, 1, 1, 0, 0, 12, 1103527590);
        x.thing(0, 0, 50);
        days("OUT", x, 1, 1, 0, 1, 12, 1103527590);
    }

    /** Draws 1103527590 (16838, of 4: 2), 377401575 (5758, of 4: 2), 662824084 (10113, of 4: 1), 1147902781 (17515). */
    private static void daysByDraws() {
        LowWater x = Check.shore("99999999;0;00");
        x.thing(0, 3, 5);
        x.thing(1, 4, 7);
        x.thing(4, 6, 11);
        for (int seed = 0; seed < 40; seed++) {
            byDraws(x, seed);
        }
        Check.due("23 hour as it was", x.count(1), 0);
        x.take(3);
        Check.due("23 TAKEN before", x.days(1, 1, 0), 5);
        Check.due("23 TAKEN before, CELLS", x.days(1, 1, 2), 10);
    }

    /** On dry mud all stay: what is TAKEN follows from the draws alone. */
    private static void byDraws(LowWater x, int seed) {
        int[] worths = {5, 7, 11};
        int[] cells = {3, 4, 6};
        boolean[] taken = new boolean[3];
        long s = seed;
        for (int h = 0; h < 20; h++) {
            s = (1103515245L * s + 12345L) % 2147483648L;
            if (s / 65536 % 4 == 0) {
                s = (1103515245L * s + 12345L) % 2147483648L;
                taken[(int) (s / 65536 % 3)] = true;
            }
        }
        int worth = 0;
        int sum = 0;
        for (int t = 0; t < 3; t++) {
            worth += taken[t] ? worths[t] : 0;
            sum += taken[t] ? 0 : cells[t];
        }
        days("by draws of " + seed, x, 20, seed, worth, 0, sum, (int) s);
    }

    private static void daysRefused() {
        LowWater x = Check.shore("00000000;0;21");
        Check.refused("23 hours 0", x, Check.OUTSIDE, o -> o.days(0, 0, 0));
        Check.refused("23 hours 61", x, Check.OUTSIDE, o -> o.days(61, 0, 0));
        Check.refused("23 seed -1", x, Check.OUTSIDE, o -> o.days(1, -1, 0));
        Check.refused("23 what -1", x, Check.OUTSIDE, o -> o.days(1, 0, -1));
        Check.refused("23 what 4", x, Check.OUTSIDE, o -> o.days(1, 0, 4));
        Check.due("23 60 hours", x.days(60, 0, 0), 0);
        Check.due("23 OUTSIDE ahead of STATE", new LowWater().days(0, 0, 0), Check.OUTSIDE);
    }
}
