/** Edges of promises 10 to 14. Each test is named by its promise and by the sentence that it would fail without. */
public final class ThingsEdgeTest {
    private static final int UNKNOWN = Check.UNKNOWN, OUTSIDE = Check.OUTSIDE, STATE = Check.STATE, FULL = Check.FULL;
    private static final int TAKEN = -1, OUT = -2, NONE = -1;
    private static final String DRY_AND_FLAT = "00000000;0;00";

    public static void main(String[] args) throws ReflectiveOperationException {
        Edges.run(ThingsEdgeTest.class, 10, 14);
    }

    /** Eight THINGS of a WORTH in one CELL. */
    private static LowWater eight(String shore, int cell, int worth) {
        LowWater x = Check.shore(shore);
        for (int n = 0; n < 8; n++) {
            x.thing(n % 5, cell, worth);
        }
        return x;
    }

    /** THING 0 lies in CELL 4, 1 is TAKEN, 2 is OUT. */
    private static LowWater lyingTakenOut() {
        LowWater x = Check.shore("00000009;25;21");
        x.thing(4, 7, 30);
        x.take(7);
        x.thing(0, 5, 20);
        x.thing(1, 1, 10);
        x.hour();
        return x;
    }

    // ---- 10 thing

    static void promise10_refusals_in_their_order() {
        for (State state : State.values()) {
            for (int kind : Edges.FEW) {
                for (int cell : Edges.FEW) {
                    for (int worth : Edges.FEW) {
                        int due = Edges.noCell(cell) ? UNKNOWN
                            : Edges.outOf(kind, 0, 4) || Edges.outOf(worth, 1, 50) ? OUTSIDE
                            : !state.hasShore() ? STATE : state == State.FULL ? FULL : 0;
                        state.does("thing " + kind + " " + cell + " " + worth, due, o -> o.thing(kind, cell, worth));
                    }
                }
            }
        }
    }

    static void promise10_the_first_is_0() {
        Check.due("first", Check.shore(DRY_AND_FLAT).thing(0, 0, 1), 0);
    }

    static void promise10_KINDS_0_to_4() {
        for (int kind = 0; kind <= 4; kind++) {
            LowWater x = Check.shore(DRY_AND_FLAT);
            x.thing(kind, 3, 5);
            Check.due("KIND " + kind, x.about(0, 0), kind);
        }
    }

    static void promise10_CELLS_0_to_7() {
        for (int cell = 0; cell <= 7; cell++) {
            LowWater x = Check.shore(DRY_AND_FLAT);
            x.thing(0, cell, 5);
            Check.due("CELL " + cell, x.about(0, 1), cell);
        }
    }

    static void promise10_WORTHS_1_to_50() {
        for (int worth = 1; worth <= 50; worth++) {
            LowWater x = Check.shore(DRY_AND_FLAT);
            x.thing(0, 0, worth);
            Check.due("WORTH " + worth, x.about(0, 2), worth);
        }
    }

    static void promise10_eight_are_good_the_ninth_is_FULL() {
        LowWater x = Check.shore(DRY_AND_FLAT);
        for (int n = 0; n < 8; n++) {
            Check.due("how many", x.count(0), n);
            Check.due("its number", x.thing(0, 7, 50), n);
        }
        Check.refused("the ninth", x, FULL, o -> o.thing(0, 7, 50));
        Check.due("about the ninth", x.about(8, 0), UNKNOWN);
    }

    static void promise10_FULL_though_all_are_TAKEN_or_OUT() {
        LowWater taken = eight(DRY_AND_FLAT, 3, 1);
        taken.take(3);
        Check.refused("TAKEN", taken, FULL, o -> o.thing(0, 3, 1));
        LowWater out = Check.shore("00000000;0;10");
        for (int n = 0; n < 8; n++) {
            out.thing(0, 0, 1);
        }
        out.hour();
        Check.due("OUT", out.about(7, 1), OUT);
        Check.refused("OUT", out, FULL, o -> o.thing(0, 3, 1));
    }

    static void promise10_a_refused_one_takes_no_number() {
        LowWater x = Check.shore(DRY_AND_FLAT);
        x.thing(0, 8, 1);
        x.thing(5, 0, 1);
        x.thing(0, 0, 0);
        Check.due("first", x.thing(0, 0, 1), 0);
        x.thing(0, 0, 51);
        Check.due("second", x.thing(0, 0, 1), 1);
    }

    static void promise10_a_WET_CELL_is_good() {
        LowWater x = Check.shore("00000000;0;99");
        Check.due("thing", x.thing(0, 4, 1), 0);
    }

    // ---- 11 about

    static void promise11_refusals_in_their_order() {
        for (State state : State.values()) {
            for (int thing : Edges.WIDE) {
                for (int what : Edges.WIDE) {
                    int due = Edges.outOf(thing, 0, state.things - 1) ? UNKNOWN
                        : Edges.outOf(what, 0, 3) ? OUTSIDE : 0;
                    state.asks("about " + thing + " " + what, due, o -> o.about(thing, what));
                }
            }
        }
    }

    static void promise11_the_last_number_and_the_first_that_is_none() {
        LowWater x = Check.shore(DRY_AND_FLAT);
        for (int n = 0; n < 8; n++) {
            Check.due("not yet " + n, x.about(n, 2), UNKNOWN);
            x.thing(0, 0, 10 + n);
            Check.due("then " + n, x.about(n, 2), 10 + n);
        }
        Check.due("8", x.about(8, 2), UNKNOWN);
    }

    static void promise11_TAKEN_is_minus_1() {
        Check.due("CELL", lyingTakenOut().about(0, 1), TAKEN);
    }

    static void promise11_OUT_is_minus_2() {
        Check.due("CELL", lyingTakenOut().about(2, 1), OUT);
    }

    static void promise11_what_lies_in_no_CELL_belongs_to_NONE() {
        LowWater x = lyingTakenOut();
        Check.due("TAKEN", x.about(0, 3), NONE);
        Check.due("it lies", x.about(1, 3), 5);
        Check.due("OUT", x.about(2, 3), NONE);
    }

    static void promise11_KIND_and_WORTH_stay() {
        LowWater x = lyingTakenOut();
        Check.due("KIND, TAKEN", x.about(0, 0), 4);
        Check.due("WORTH, TAKEN", x.about(0, 2), 30);
        Check.due("KIND, OUT", x.about(2, 0), 1);
        Check.due("WORTH, OUT", x.about(2, 2), 10);
    }

    /** To which STAIR one belongs, CELL by CELL. */
    private static void belongs(String stairs, int... due) {
        for (int c = 0; c < 8; c++) {
            LowWater x = Check.shore("00000000;" + stairs + ";00");
            x.thing(0, c, 1);
            Check.due("STAIRS " + stairs + ", from " + c, x.about(0, 3), due[c]);
        }
    }

    static void promise11_the_nearest_STAIR() {
        belongs("0", 0, 0, 0, 0, 0, 0, 0, 0);
        belongs("7", 7, 7, 7, 7, 7, 7, 7, 7);
        belongs("70", 0, 0, 0, 0, 7, 7, 7, 7);
        belongs("76543210", 0, 1, 2, 3, 4, 5, 6, 7);
    }

    static void promise11_of_like_near_ones_the_least_CELL() {
        belongs("06", 0, 0, 0, 0, 6, 6, 6, 6);
        belongs("60", 0, 0, 0, 0, 6, 6, 6, 6);
        belongs("7531", 1, 1, 1, 3, 3, 5, 5, 7);
        belongs("17", 1, 1, 1, 1, 1, 7, 7, 7);
    }

    static void promise11_as_it_lies_then() {
        LowWater x = Check.shore("00000000;34;12");
        x.thing(0, 3, 1);
        Check.due("STAIR", x.about(0, 3), 3);
        x.hour();
        Check.due("STAIR, an hour later", x.about(0, 3), 4);
    }

    // ---- 12 as

    static void promise12_refusals_in_their_order() {
        for (State state : State.values()) {
            for (int thing : Edges.WIDE) {
                for (int kind : Edges.WIDE) {
                    int due = Edges.outOf(thing, 0, state.things - 1) ? UNKNOWN
                        : Edges.outOf(kind, 0, 4) ? OUTSIDE : 0;
                    state.asks("as " + thing + " " + kind, due, o -> o.as(thing, kind));
                }
            }
        }
    }

    /** As which KINDS, 0 to 4, one may be taken. */
    private static void is(int kind, boolean... due) {
        LowWater x = Check.shore(DRY_AND_FLAT);
        x.thing(3, 0, 1);
        x.thing(3, 0, 1);
        x.thing(kind, 0, 1);
        for (int asked = 0; asked < 5; asked++) {
            Check.due(kind + " as " + asked, x.as(2, asked), due[asked] ? 2 : NONE);
        }
    }

    static void promise12_all_are_THINGS() {
        LowWater x = eight(DRY_AND_FLAT, 0, 1);
        for (int n = 0; n < 8; n++) {
            Check.due("number " + n, x.as(n, 0), n);
        }
    }

    static void promise12_a_THING_is_no_other() {
        is(0, true, false, false, false, false);
    }

    static void promise12_a_CORK_is_no_BOTTLE() {
        is(1, true, true, false, false, false);
    }

    static void promise12_a_HEAVY_is_a_HEAVY() {
        is(2, true, false, true, false, false);
    }

    static void promise12_a_RING_is_a_RING() {
        is(3, true, false, false, true, false);
    }

    static void promise12_a_BOTTLE_is_a_CORK_too() {
        is(4, true, true, false, false, true);
    }

    static void promise12_TAKEN_and_OUT_are_what_they_were() {
        LowWater x = lyingTakenOut();
        Check.due("TAKEN", x.as(0, 1), 0);
        Check.due("TAKEN, a HEAVY", x.as(0, 2), NONE);
        Check.due("OUT", x.as(2, 1), 2);
        Check.due("OUT, a BOTTLE", x.as(2, 4), NONE);
    }

    // ---- 13 take

    static void promise13_refusals_in_their_order() {
        for (State state : State.values()) {
            for (int cell : Edges.WIDE) {
                boolean wet = state.hasShore() && !Edges.noCell(cell) && state.make().cell(cell, 2) == 0;
                int due = Edges.noCell(cell) ? UNKNOWN : !state.hasShore() || wet ? STATE : 0;
                state.does("take " + cell, due, o -> o.take(cell));
            }
        }
    }

    static void promise13_a_height_equal_to_the_LEVEL_is_good() {
        Check.due("equal", eight("00000005;0;50", 7, 1).take(7), 8);
        Check.due("one above", eight("00000004;0;50", 7, 1).take(7), STATE);
        Check.due("by THE BARGE one above", bargedTake(6), STATE);
        Check.due("by THE BARGE equal", bargedTake(5), 8);
    }

    private static int bargedTake(int barge) {
        LowWater x = eight("00000005;0;50", 7, 1);
        x.barge(barge);
        return x.take(7);
    }

    static void promise13_nothing_lies_there() {
        LowWater x = Check.shore(DRY_AND_FLAT);
        Check.due("no THINGS", x.take(3), 0);
        x.thing(0, 2, 1);
        Check.due("beside", x.take(3), 0);
        Check.due("none TAKEN", x.about(0, 1), 2);
    }

    static void promise13_all_eight() {
        for (int cell = 0; cell < 8; cell += 7) {
            LowWater x = eight(DRY_AND_FLAT, cell, 50);
            Check.due("in " + cell, x.take(cell), 400);
            for (int n = 0; n < 8; n++) {
                Check.due("number " + n, x.about(n, 1), TAKEN);
            }
        }
    }

    static void promise13_once() {
        LowWater x = eight(DRY_AND_FLAT, 3, 2);
        Check.due("first", x.take(3), 16);
        Check.due("again", x.take(3), 0);
        Check.due("TAKEN in all", x.count(5), 16);
    }

    static void promise13_what_is_WET_stays() {
        LowWater x = eight("00000000;0;10", 3, 2);
        Check.refused("WET", x, STATE, o -> o.take(3));
        Check.due("they lie there", x.cell(3, 3), 8);
    }

    // ---- 14 share

    static void promise14_refusals() {
        for (State state : State.values()) {
            for (int cell : Edges.WIDE) {
                boolean stair = !Edges.noCell(cell) && state.make().cell(cell, 1) == 1;
                state.asks("share " + cell, stair ? 0 : UNKNOWN, o -> o.share(cell));
            }
        }
    }

    static void promise14_no_SHORE_is_UNKNOWN() {
        for (int cell = 0; cell < 8; cell++) {
            Check.due("share " + cell, new LowWater().share(cell), UNKNOWN);
        }
    }

    static void promise14_a_CELL_without_STAIR_is_UNKNOWN() {
        LowWater x = eight("00000000;07;00", 3, 1);
        for (int cell = 1; cell < 7; cell++) {
            Check.due("share " + cell, x.share(cell), UNKNOWN);
        }
        Check.due("share 0", x.share(0), 8);
        Check.due("share 7", x.share(7), 0);
    }

    static void promise14_no_THINGS() {
        Check.due("share", Check.shore(DRY_AND_FLAT).share(0), 0);
    }

    static void promise14_all_eight() {
        Check.due("share", eight(DRY_AND_FLAT, 7, 50).share(0), 400);
    }

    static void promise14_of_like_near_ones_the_least_CELL() {
        LowWater x = eight("00000000;62;00", 4, 3);
        Check.due("the lesser", x.share(2), 24);
        Check.due("the greater", x.share(6), 0);
    }

    static void promise14_a_nearer_CELL_without_STAIR_has_no_share() {
        LowWater x = Check.shore("00000000;35;00");
        x.thing(0, 0, 1);
        x.thing(0, 4, 2);
        x.thing(0, 7, 4);
        Check.due("from 0 and 4", x.share(3), 3);
        Check.due("from 7", x.share(5), 4);
    }

    static void promise14_TAKEN_and_OUT_belong_to_none() {
        LowWater x = lyingTakenOut();
        Check.due("near TAKEN and OUT", x.share(2), 0);
        Check.due("what lies", x.share(5), 20);
    }
}
