import java.math.BigInteger;

/** Edges of promises 20 to 23. Each test is named by its promise and by the sentence that it would fail without. */
public final class MarksEdgeTest {
    private static final int UNKNOWN = Check.UNKNOWN, OUTSIDE = Check.OUTSIDE, STATE = Check.STATE, FULL = Check.FULL;
    private static final int OUT = -2, ALL = 31;
    private static final int THING = 1, CORK = 2, HEAVY = 4, RING = 8, BOTTLE = 16;

    public static void main(String[] args) throws ReflectiveOperationException {
        Edges.run(MarksEdgeTest.class, 20, 23);
    }

    // ---- 20 mark

    static void promise20_refusals_in_their_order() {
        for (State state : State.values()) {
            for (int hour : Edges.WIDE) {
                for (int cell : Edges.WIDE) {
                    int due = Edges.outOf(hour, 0, 99) ? OUTSIDE : Edges.noCell(cell) ? UNKNOWN
                        : state.hasShore() ? 0 : STATE;
                    state.does("mark " + hour + " " + cell, due, o -> o.mark(hour, cell));
                }
            }
        }
    }

    static void promise20_how_many_there_were_none_to_eight() {
        LowWater x = Check.shore("00000000;0;12");
        Check.due("none", x.mark(0, 0), 0);
        for (int many = 1; many <= 8; many++) {
            Check.due("before " + many, x.mark(0, 0), many == 1 ? 1 : many - 1);
            for (int n = 1; n < many; n++) {
                x.then(0);
            }
            Check.due("count", x.count(6), many);
        }
        Check.due("eight", x.mark(99, 7), 8);
        Check.due("one", x.mark(99, 7), 1);
    }

    static void promise20_others_are_gone() {
        LowWater x = State.FULL.make();
        x.mark(0, 1);
        Check.due("count", x.count(6), 1);
        Check.due("all fit", x.fits(), ALL);
        for (int many = 2; many <= 8; many++) {
            Check.due("eight again", x.then(0), many);
        }
    }

    static void promise20_a_refused_one_leaves_the_others() {
        LowWater x = State.BUSY.make();
        x.mark(100, 0);
        x.mark(0, 8);
        Check.due("count", x.count(6), 3);
        Check.due("none fits", x.fits(), State.BUSY.make().fits());
    }

    static void promise20_hours_0_and_99() {
        LowWater first = Check.shore("00000000;0;2111111111");
        first.mark(0, 3);
        first.then(2);
        Check.due("hour 0", first.fits(), THING + HEAVY);
        LowWater last = Check.shore("00000000;0;2111111111");
        last.mark(99, 3);
        last.then(4);
        Check.due("hour 99, to hour 100", last.fits(), THING);
    }

    // ---- 21 then

    static void promise21_refusals_in_their_order() {
        for (State state : State.values()) {
            for (int cell : Edges.WIDE) {
                int due = !state.hasMarks() ? STATE : Edges.noCell(cell) && cell != OUT ? UNKNOWN
                    : state == State.FULL ? FULL : 0;
                state.does("then " + cell, due, o -> o.then(cell));
            }
        }
    }

    static void promise21_two_marks_to_eight() {
        LowWater x = Check.shore("00000000;0;12");
        x.mark(0, 7);
        for (int many = 2; many <= 8; many++) {
            Check.due("how many", x.then(many - 1), many);
            Check.due("count", x.count(6), many);
        }
        Check.refused("the ninth", x, FULL, o -> o.then(7));
        Check.refused("the ninth, OUT", x, FULL, o -> o.then(OUT));
    }

    static void promise21_OUT_is_good_NONE_is_not() {
        LowWater x = Check.shore("00000000;0;12");
        x.mark(0, 0);
        Check.refused("-1", x, UNKNOWN, o -> o.then(-1));
        Check.refused("-3", x, UNKNOWN, o -> o.then(-3));
        Check.due("-2", x.then(OUT), 2);
        Check.due("0", x.then(0), 3);
        Check.due("7", x.then(7), 4);
        Check.refused("8", x, UNKNOWN, o -> o.then(8));
    }

    static void promise21_gone_MARKS_have_not_begun() {
        LowWater x = State.BARE.make();
        x.image();
        x.mark(0, 0);
        x.restore();
        Check.refused("restored", x, STATE, o -> o.then(0));
        x.mark(0, 0);
        Check.write(x, "00000000;0;12");
        x.shore();
        Check.refused("another SHORE", x, STATE, o -> o.then(0));
    }

    // ---- 22 fits

    static void promise22_refusals() {
        for (State state : State.values()) {
            state.asks("fits", state.hasMarks() ? 0 : STATE, LowWater::fits);
        }
    }

    private static int fits(String shore, int hour, int... cells) {
        LowWater x = Check.shore(shore);
        x.mark(hour, cells[0]);
        for (int i = 1; i < cells.length; i++) {
            x.then(cells[i]);
        }
        return x.fits();
    }

    static void promise22_one_mark_fits_all() {
        for (int cell = 0; cell < 8; cell++) {
            Check.due("in " + cell, fits("00000000;0;21", 0, cell), ALL);
            Check.due("in " + cell + " from hour 99 on", fits("00000000;0;21", 99, cell), ALL);
        }
    }

    static void promise22_none_fits() {
        Check.due("upwards by EBB", fits("00000000;0;21", 0, 3, 4), 0);
        Check.due("four CELLS", fits("00000000;0;21", 0, 4, 0), 0);
        Check.due("OUT by FLOOD", fits("00000000;0;12", 0, 0, OUT), 0);
        Check.due("from 0 to 7", fits("00000000;0;21", 0, 0, 7), 0);
    }

    static void promise22_each_KIND_by_its_own_drift() {
        Check.due("by EBB 1", fits("00000000;0;21", 0, 3, 2), THING + HEAVY);
        Check.due("by EBB 2", fits("00000000;0;21", 0, 3, 1), CORK);
        Check.due("by EBB 3", fits("00000000;0;21", 0, 3, 0), BOTTLE);
        Check.due("by EBB 0", fits("00000000;0;21", 0, 3, 3), RING);
        Check.due("by FLOOD 1", fits("00000000;0;12", 0, 3, 4), THING);
        Check.due("by FLOOD 2", fits("00000000;0;12", 0, 3, 5), CORK);
        Check.due("by FLOOD 3", fits("00000000;0;12", 0, 3, 6), BOTTLE);
        Check.due("by FLOOD 0", fits("00000000;0;12", 0, 3, 3), HEAVY + RING);
    }

    static void promise22_OUT() {
        Check.due("from 0", fits("00000000;0;21", 0, 0, OUT), ALL - RING);
        Check.due("from 1", fits("00000000;0;21", 0, 1, OUT), CORK + BOTTLE);
        Check.due("from 2", fits("00000000;0;21", 0, 2, OUT), BOTTLE);
        Check.due("from 3", fits("00000000;0;21", 0, 3, OUT), 0);
    }

    static void promise22_OUT_stays_OUT() {
        Check.due("stays", fits("00000000;0;212", 0, 0, OUT, OUT), ALL - RING);
        Check.due("comes back", fits("00000000;0;212", 0, 0, OUT, 0), 0);
        Check.due("seven times", fits("00000000;0;21", 0, 2, OUT, OUT, OUT, OUT, OUT, OUT, OUT), BOTTLE);
    }

    static void promise22_at_the_ends_of_the_row() {
        Check.due("7 by FLOOD", fits("00000000;0;12", 0, 7, 7), ALL);
        Check.due("6 by FLOOD", fits("00000000;0;12", 0, 6, 7), THING + CORK + BOTTLE);
        Check.due("5 by FLOOD", fits("00000000;0;12", 0, 5, 7), CORK + BOTTLE);
        Check.due("4 by FLOOD", fits("00000000;0;12", 0, 4, 7), BOTTLE);
        Check.due("0 by EBB", fits("00000000;0;21", 0, 0, 0), RING);
    }

    static void promise22_THE_TIDE_begins_over_again() {
        Check.due("from the last hour on", fits("00000000;0;123", 2, 3, 2), THING + HEAVY);
        Check.due("over it", fits("00000000;0;123", 1, 3, 4, 3, 4), THING);
        Check.due("hours 99 to 106", fits("00000000;0;1212121", 99, 3, 2, 3, 2, 3, 2, 2, 3), THING);
    }

    static void promise22_the_eighth_mark_counts() {
        Check.due("fits", fits("00000000;0;1122222", 0, 3, 3, 4, 4, 4, 4, 4, 3), THING);
        Check.due("the eighth does not", fits("00000000;0;1122222", 0, 3, 3, 4, 4, 4, 4, 4, 4), 0);
        Check.due("the second does not", fits("00000000;0;1122222", 0, 3, 4, 4, 4, 4, 4, 4, 3), 0);
    }

    static void promise22_in_a_DRY_CELL_all_stay() {
        Check.due("stay", fits("00010000;0;12", 0, 3, 3), ALL);
        Check.due("do not go", fits("00010000;0;12", 0, 3, 4), 0);
    }

    static void promise22_BARGE_as_it_is() {
        LowWater x = Check.shore("00020000;0;12");
        x.mark(0, 1);
        x.then(3);
        Check.due("over none", x.fits(), CORK + BOTTLE);
        x.barge(3);
        Check.due("there, a BOTTLE does not stop", x.fits(), CORK);
        x.barge(2);
        Check.due("beside, a BOTTLE does not stop", x.fits(), CORK);
        x.barge(5);
        Check.due("two off", x.fits(), CORK + BOTTLE);
    }

    static void promise22_changes_nothing() {
        State.BUSY.answers("fits", LowWater::fits);
        State.FULL.answers("fits", LowWater::fits);
    }

    // ---- 23 days

    static void promise23_refusals_in_their_order() {
        for (State state : State.values()) {
            for (int hours : Edges.FEW) {
                for (int seed : Edges.FEW) {
                    for (int what : Edges.FEW) {
                        int due = Edges.outOf(hours, 1, 60) || seed < 0 || Edges.outOf(what, 0, 3) ? OUTSIDE
                            : state.hasShore() ? 0 : STATE;
                        state.asks("days " + hours + " " + seed + " " + what, due, o -> o.days(hours, seed, what));
                    }
                }
            }
        }
    }

    static void promise23_without_THINGS_nothing_is_drawn() {
        LowWater x = State.BARE.make();
        for (int seed : new int[] {0, 1, 65536, Integer.MAX_VALUE}) {
            Check.due("TAKEN", x.days(60, seed, 0), 0);
            Check.due("OUT", x.days(60, seed, 1), 0);
            Check.due("CELLS", x.days(60, seed, 2), 0);
            Check.due("SEED " + seed, x.days(60, seed, 3), seed);
        }
    }

    private static long next(long seed) {
        BigInteger product = BigInteger.valueOf(1103515245).multiply(BigInteger.valueOf(seed));
        return product.add(BigInteger.valueOf(12345)).mod(BigInteger.TWO.pow(31)).longValueExact();
    }

    private static int drawn(long seed, int of) {
        return (int) (seed / 65536 % of);
    }

    private static final int[] SEEDS = {
        0, 1, 2, 3, 4, 5, 65535, 65536, 1 << 30, Integer.MAX_VALUE - 1, Integer.MAX_VALUE};

    static void promise23_the_SEED_by_its_rest() {
        LowWater x = Check.shore("00000000;0;11");
        x.thing(3, 0, 1);
        Check.due("from 0, a draw of 0 and one more", x.days(1, 0, 3), next(12345));
        Check.due("from 1, one draw", x.days(1, 1, 3), 1103527590);
        for (int seed : SEEDS) {
            long due = seed;
            for (int hours = 1; hours <= 60; hours++) {
                due = next(due);
                due = drawn(due, 4) == 0 ? next(due) : due;
                Check.due("from " + seed + " in " + hours, x.days(hours, seed, 3), due);
            }
        }
    }

    static void promise23_a_draw_of_4_is_0() {
        LowWater x = Check.shore("99999999;0;11");
        x.thing(0, 0, 7);
        int[] seen = new int[4];
        for (int seed = 0; seed < 100; seed++) {
            int draw = drawn(next(seed), 4);
            seen[draw]++;
            Check.due("seed " + seed + ", draw " + draw, x.days(1, seed, 0), draw == 0 ? 7 : 0);
        }
        for (int draw = 0; draw < 4; draw++) {
            Check.due("draw " + draw + " is seen", seen[draw] > 0 ? 1 : 0, 1);
        }
    }

    static void promise23_a_draw_of_how_many_there_are_one_to_eight() {
        for (int many = 1; many <= 8; many++) {
            LowWater x = Check.shore("99999999;0;11");
            for (int n = 0; n < many; n++) {
                x.thing(0, n, 10 + n);
            }
            int[] seen = new int[many];
            for (int seed = 0; seed < 400; seed++) {
                long first = next(seed);
                if (drawn(first, 4) == 0) {
                    int number = drawn(next(first), many);
                    seen[number]++;
                    Check.due(many + " THINGS, seed " + seed, x.days(1, seed, 0), 10 + number);
                    Check.due(many + " THINGS, seed " + seed + ", SEED", x.days(1, seed, 3), next(next(seed)));
                }
            }
            for (int number = 0; number < many; number++) {
                Check.due(many + " THINGS, " + number + " is seen", seen[number] > 0 ? 1 : 0, 1);
            }
        }
    }

    static void promise23_the_highest_SEED() {
        LowWater x = Check.shore("99999999;0;11");
        x.thing(0, 0, 7);
        long first = next(Integer.MAX_VALUE);
        Check.due("its next is as told", first, 1043980748);
        Check.due("SEED", x.days(1, Integer.MAX_VALUE, 3), drawn(first, 4) == 0 ? next(first) : first);
    }

    /** The least seed by which the one THING is drawn in the first hour. */
    private static int seedThatDraws() {
        int seed = 0;
        while (drawn(next(seed), 4) != 0) {
            seed++;
        }
        return seed;
    }

    static void promise23_only_in_a_DRY_CELL() {
        int seed = seedThatDraws();
        LowWater dry = Check.shore("00050000;0;50");
        dry.thing(3, 3, 7);
        Check.due("equal", dry.days(1, seed, 0), 7);
        LowWater wet = Check.shore("00040000;0;50");
        wet.thing(3, 3, 7);
        Check.due("one above", wet.days(1, seed, 0), 0);
        Check.due("it lies there", wet.days(1, seed, 2), 3);
        wet.barge(0);
        Check.due("WET, SEED", wet.days(1, seed, 3), next(next(seed)));
        dry.barge(2);
        Check.due("WET by THE BARGE", dry.days(1, seed, 0), 0);
    }

    static void promise23_TAKEN_ahead_of_the_hour() {
        int seed = seedThatDraws();
        LowWater x = Check.shore("00050000;0;59");
        x.thing(0, 3, 7);
        Check.due("DRY in this hour, WET in the next", x.days(1, seed, 0), 7);
        LowWater y = Check.shore("00050000;0;95");
        y.thing(3, 3, 7);
        Check.due("WET in this hour, DRY in the next", y.days(1, seed, 0), 0);
    }

    static void promise23_one_hour_goes_by_and_sixty() {
        LowWater x = Check.shore("00000000;0;123456789876");
        x.thing(0, 0, 7);
        Check.due("one", x.days(1, 1, 2), 1);
        Check.due("seven", x.days(7, 1, 2), 7);
        Check.due("eight", x.days(8, 1, 2), 7);
        Check.due("nine", x.days(9, 1, 2), 6);
        LowWater y = Check.shore("00000000;0;12");
        y.thing(0, 3, 7);
        for (int hours = 1; hours <= 60; hours++) {
            Check.due("up and down, " + hours, y.days(hours, 1, 2), hours % 2 == 0 ? 3 : 4);
        }
        y.hour();
        Check.due("from the hour that it is", y.days(60, 1, 2), 4);
    }

    static void promise23_TAKEN_and_OUT_stay_and_count_among_those_there() {
        LowWater x = Check.shore("99900000;0;10");
        x.thing(0, 0, 7);
        x.thing(0, 3, 20);
        x.take(0);
        for (int seed = 0; seed < 200; seed++) {
            long first = next(seed);
            // The second lies in a WET CELL and drifts down to dry mud: it can't be TAKEN in the first hour.
            Check.due("seed " + seed + ", TAKEN", x.days(1, seed, 0), 7);
            Check.due("seed " + seed + ", CELLS", x.days(1, seed, 2), 2);
            Check.due("seed " + seed + ", SEED", x.days(1, seed, 3), drawn(first, 4) == 0 ? next(first) : first);
            Check.due("seed " + seed + ", OUT", x.days(1, seed, 1), 0);
        }
        LowWater gone = Check.shore("00000000;0;10");
        gone.thing(0, 0, 7);
        gone.hour();
        int seed = seedThatDraws();
        Check.due("OUT already", gone.days(1, seed, 1), 1);
        Check.due("OUT already, not TAKEN", gone.days(60, seed, 0), 0);
        Check.due("OUT already, drawn", gone.days(1, seed, 3), next(next(seed)));
    }

    static void promise23_OUT_none_to_eight() {
        for (int many = 0; many <= 8; many++) {
            LowWater x = Check.shore("00000000;0;21");
            for (int n = 0; n < 8; n++) {
                x.thing(n < many ? 0 : 3, 0, 1);
            }
            Check.due("OUT of " + many, x.days(1, 1, 1), many);
            Check.due("OUT in an hour, of " + many, x.days(2, 1, 1), many);
        }
    }

    static void promise23_the_CELLS_of_all_others_together() {
        LowWater x = Check.shore("99999999;0;00");
        Check.due("none", x.days(1, 1, 2), 0);
        for (int n = 1; n <= 8; n++) {
            x.thing(0, 7, 50);
            Check.due(n + " in 7", x.days(1, 1, 2), 7 * n);
        }
        x.take(7);
        Check.due("all TAKEN", x.days(1, 1, 2), 0);
        Check.due("all TAKEN, WORTH", x.days(1, 1, 0), 400);
    }

    static void promise23_as_they_would_be_nothing_changes() {
        for (State state : new State[] {State.BARE, State.BUSY, State.FULL}) {
            for (int what = 0; what < 4; what++) {
                int told = what;
                state.answers("days 60 " + what, o -> o.days(60, 99, told));
            }
        }
    }
}
