/** Edges of promises 15 to 19. Each test is named by its promise and by the sentence that it would fail without. */
public final class WouldBeEdgeTest {
    private static final int UNKNOWN = Check.UNKNOWN, OUTSIDE = Check.OUTSIDE, STATE = Check.STATE;
    private static final int NONE = -1, ALL = 255;

    public static void main(String[] args) throws ReflectiveOperationException {
        Edges.run(WouldBeEdgeTest.class, 15, 19);
    }

    private static int bits(int... cells) {
        int bits = 0;
        for (int c : cells) {
            bits |= 1 << c;
        }
        return bits;
    }

    // ---- 15 best

    static void promise15_refusals_in_their_order() {
        for (State state : State.values()) {
            for (int cell : Edges.FEW) {
                for (int hours : Edges.FEW) {
                    for (int what : Edges.FEW) {
                        int due = Edges.noCell(cell) ? UNKNOWN
                            : Edges.outOf(hours, 0, 7) || Edges.outOf(what, 0, 1) ? OUTSIDE
                            : !state.hasShore() || state == State.FULL ? STATE : 0;
                        state.does("best " + cell + " " + hours + " " + what, due, o -> o.best(cell, hours, what));
                    }
                }
            }
        }
    }

    static void promise15_the_40th_is_good_the_41st_is_STATE() {
        LowWater x = Check.shore("00000000;0;00");
        for (int n = 1; n <= 40; n++) {
            Check.due("time " + n, x.best(0, 7, 1), 0);
            Check.due("how often", x.count(9), n);
        }
        Check.refused("time 41", x, STATE, o -> o.best(0, 7, 1));
        Check.refused("time 42", x, STATE, o -> o.best(0, 0, 0));
    }

    static void promise15_refusals_do_not_count() {
        LowWater x = new LowWater();
        for (int n = 0; n < 50; n++) {
            x.best(0, 0, 0);
        }
        Check.write(x, "00000000;0;00");
        x.shore();
        for (int n = 0; n < 50; n++) {
            x.best(8, 0, 0);
            x.best(0, 8, 0);
            x.best(0, 0, 2);
        }
        Check.due("none", x.count(9), 0);
        for (int n = 0; n < 40; n++) {
            Check.due("time " + n, x.best(0, 0, 0), 0);
        }
        Check.due("then", x.best(0, 0, 0), STATE);
        Check.due("refused, not counted", x.count(9), 40);
    }

    static void promise15_all_else_counts() {
        LowWater x = Check.shore("00000000;0;00");
        for (int n = 0; n < 20; n++) {
            Check.due("it can't", x.best(1, 0, 0), NONE);
            Check.due("whither it can't", x.best(1, 0, 1), NONE);
        }
        Check.due("forty", x.count(9), 40);
        Check.due("then", x.best(0, 0, 0), STATE);
    }

    static void promise15_40_times_ever() {
        LowWater x = Check.shore("00000000;0;00");
        x.image();
        for (int n = 0; n < 39; n++) {
            x.best(0, 0, 0);
        }
        x.restore();
        Check.due("behind restore", x.count(9), 39);
        Check.write(x, "00000000;0;00");
        x.shore();
        Check.due("behind another SHORE", x.count(9), 39);
        Check.due("the 40th", x.best(0, 0, 0), 0);
        Check.due("the 41st", x.best(0, 0, 0), STATE);
        Check.write(x, "00000000;0;00");
        x.shore();
        Check.due("and on another SHORE", x.best(0, 0, 0), STATE);
    }

    /** How much and whither, by two calls that change nothing but how often best() was done. */
    private static void best(String what, LowWater x, int cell, int hours, int most, int first) {
        long before = x.digest();
        Check.due(what + ", how much", x.best(cell, hours, 0), most);
        Check.due(what + ", whither", x.best(cell, hours, 1), first);
        Check.due(what + ", nothing else changes", x.digest(), before + 2);
    }

    static void promise15_it_changes_nothing_but_how_often() {
        for (State state : new State[] {State.BARE, State.BUSY}) {
            LowWater x = state.make();
            long before = x.digest();
            x.best(6, 7, 0);
            Check.due(state + ", digest", x.digest(), before + 1);
        }
    }

    static void promise15_in_0_hours_it_stays() {
        LowWater x = Check.shore("00000000;3;00");
        best("without THINGS", x, 3, 0, 0, 3);
        x.thing(0, 3, 7);
        x.thing(0, 2, 50);
        best("what lies there", x, 3, 0, 7, 3);
    }

    static void promise15_it_begins_on_a_STAIR() {
        LowWater x = Check.shore("00000000;3;00");
        for (int c = 0; c < 8; c++) {
            best("from " + c, x, c, 0, c == 3 ? 0 : NONE, c == 3 ? 3 : NONE);
        }
        best("beside", x, 4, 1, NONE, NONE);
    }

    static void promise15_it_begins_on_a_DRY_CELL() {
        best("equal", Check.shore("30000000;0;30"), 0, 0, 0, 0);
        best("one above", Check.shore("20000000;0;30"), 0, 0, NONE, NONE);
        best("DRY in the next hour", Check.shore("20000000;0;30"), 0, 1, NONE, NONE);
    }

    static void promise15_it_stands_on_a_DRY_CELL_in_each_next_hour() {
        best("equal", Check.shore("30000000;0;03"), 0, 1, 0, 0);
        best("one above", Check.shore("20000000;0;03"), 0, 1, NONE, NONE);
        best("between", Check.shore("20000000;0;030"), 0, 2, NONE, NONE);
        best("beside it is DRY", Check.shore("23000000;0;030"), 0, 2, 0, 1);
        best("in the last hour", Check.shore("20000000;0;00000003"), 0, 7, NONE, NONE);
        best("behind the last hour", Check.shore("20000000;0;000000003"), 0, 7, 0, 0);
    }

    static void promise15_it_ends_on_a_STAIR() {
        LowWater x = Check.shore("00000000;3;00");
        x.thing(0, 4, 9);
        best("no time to go home", x, 3, 1, 0, 3);
        best("there and home", x, 3, 2, 9, 4);
        LowWater two = Check.shore("00000000;34;00");
        two.thing(0, 4, 9);
        best("another STAIR", two, 3, 1, 9, 4);
    }

    static void promise15_the_same_CELL_or_one_beside_it() {
        LowWater x = Check.shore("00000000;24;00");
        x.thing(0, 2, 1);
        x.thing(0, 4, 5);
        best("not two up in one hour", x, 2, 1, 1, 2);
        best("two up in two hours", x, 2, 2, 6, 3);
        LowWater y = Check.shore("00000000;24;00");
        y.thing(0, 2, 5);
        best("not two down in one hour", y, 4, 1, 0, 4);
        best("two down in two hours", y, 4, 2, 5, 3);
    }

    static void promise15_seven_hours_reach_a_CELL_three_off_not_four() {
        LowWater x = Check.shore("00000000;0;00");
        x.thing(0, 3, 9);
        best("three off in six", x, 0, 6, 9, 1);
        best("three off in seven", x, 0, 7, 9, 0);
        LowWater y = Check.shore("00000000;0;00");
        y.thing(0, 4, 9);
        best("four off in seven", y, 0, 7, 0, 0);
        LowWater end = Check.shore("00000000;07;00");
        for (int c = 0; c < 8; c++) {
            end.thing(3, c, 50);
        }
        best("from end to end", end, 0, 7, 400, 1);
        best("back from end to end", end, 7, 7, 400, 6);
    }

    static void promise15_at_the_ends_of_the_row() {
        LowWater low = Check.shore("00000000;0;00");
        low.thing(0, 7, 50);
        low.thing(0, 1, 3);
        best("not from 0 to 7", low, 0, 2, 3, 1);
        LowWater high = Check.shore("00000000;7;00");
        high.thing(0, 0, 50);
        high.thing(0, 6, 3);
        best("not from 7 to 0", high, 7, 2, 3, 6);
    }

    static void promise15_of_like_ones_the_least_CELL() {
        LowWater x = Check.shore("00000000;3;00");
        best("without THINGS", x, 3, 2, 0, 2);
        x.thing(0, 2, 5);
        x.thing(0, 4, 5);
        best("like WORTHS", x, 3, 2, 5, 2);
        x.thing(0, 4, 1);
        best("one more", x, 3, 2, 6, 4);
        LowWater y = Check.shore("00000000;3;00");
        y.thing(0, 4, 5);
        best("staying is less than going up", y, 3, 3, 5, 3);
    }

    static void promise15_what_it_TAKES_it_TAKES_once() {
        LowWater x = Check.shore("00000000;0;00");
        x.thing(0, 0, 5);
        x.thing(0, 1, 7);
        best("to and fro", x, 0, 7, 12, 0);
    }

    static void promise15_all_THINGS_of_its_CELL() {
        LowWater x = Check.shore("00000000;7;00");
        for (int n = 0; n < 8; n++) {
            x.thing(n % 5, 7, 50);
        }
        best("eight", x, 7, 0, 400, 7);
    }

    static void promise15_TAKEN_and_OUT_are_not_there() {
        LowWater x = Check.shore("00000009;07;10");
        x.thing(0, 7, 50);
        x.thing(0, 0, 40);
        x.take(7);
        x.hour();
        best("TAKEN", x, 7, 0, 0, 7);
        best("OUT", x, 0, 0, 0, 0);
    }

    static void promise15_as_they_lie_when_hours_go_by() {
        LowWater x = Check.shore("00022222;3;13121");
        x.thing(0, 0, 9);
        best("WET in the next hour", x, 3, 1, NONE, NONE);
        LowWater y = Check.shore("00022222;34;12121");
        y.thing(0, 2, 9);
        best("not there yet", y, 3, 0, 0, 3);
        best("it comes", y, 3, 1, 9, 3);
    }

    static void promise15_as_they_lie_now_not_as_they_lay() {
        LowWater x = Check.shore("00002999;34;0120");
        x.thing(0, 3, 9);
        best("it lies in 3", x, 3, 0, 9, 3);
        best("it lies in 3, as seen from 4", x, 4, 0, 0, 4);
        x.hour();
        x.hour();
        x.hour();
        best("it lies in 3 no more", x, 3, 0, 0, 3);
        best("it lies in 4", x, 4, 0, 9, 4);
    }

    static void promise15_THE_TIDE_begins_over_again() {
        LowWater x = Check.shore("11000000;0;0012");
        x.hour();
        x.hour();
        x.hour();
        best("height 2 now", x, 0, 0, NONE, NONE);
        x.hour();
        best("to hour 6", x, 0, 2, 0, 0);
        best("to hour 7", x, 0, 3, NONE, NONE);
    }

    static void promise15_THE_BARGE_as_it_lies() {
        LowWater x = Check.shore("22200000;0;11");
        x.thing(0, 1, 5);
        best("over none", x, 0, 2, 5, 1);
        x.barge(2);
        best("beside", x, 0, 2, 5, 1);
        x.barge(1);
        best("there", x, 0, 2, 0, 0);
        x.barge(0);
        best("where it begins", x, 0, 2, NONE, NONE);
    }

    // ---- 16 whence

    static void promise16_refusals_in_their_order() {
        for (State state : State.values()) {
            int gone = Math.max(0, state.make().count(1));
            for (int kind : Edges.FEW) {
                for (int cell : Edges.FEW) {
                    for (int hours : Edges.FEW) {
                        int due = Edges.outOf(kind, 0, 4) ? OUTSIDE : Edges.noCell(cell) ? UNKNOWN
                            : Edges.outOf(hours, 1, 12) ? OUTSIDE : !state.hasShore() || hours > gone ? STATE : 0;
                        state.asks("whence " + kind + " " + cell + " " + hours, due,
                            o -> o.whence(kind, cell, hours));
                    }
                }
            }
        }
    }

    static void promise16_as_many_hours_as_have_gone_one_more_is_STATE() {
        LowWater x = Check.shore("99999999;0;00");
        for (int gone = 0; gone <= 14; gone++) {
            for (int hours = 1; hours <= 12; hours++) {
                Check.due(hours + " of " + gone, x.whence(3, 0, hours), hours <= gone ? 1 : STATE);
            }
            Check.due("13 of " + gone, x.whence(3, 0, 13), OUTSIDE);
            Check.due("0 of " + gone, x.whence(3, 0, 0), OUTSIDE);
            x.hour();
        }
    }

    static void promise16_restore_takes_hours_back() {
        LowWater x = Check.shore("99999999;0;00");
        x.hour();
        x.image();
        x.hour();
        Check.due("two", x.whence(0, 0, 2), 1);
        x.restore();
        Check.due("two then", x.whence(0, 0, 2), STATE);
        Check.due("one then", x.whence(0, 0, 1), 1);
    }

    static void promise16_no_CELL_to_all() {
        LowWater none = Check.shore("00000000;0;12");
        none.hour();
        Check.due("none", none.whence(4, 0, 1), 0);
        LowWater up = Check.shore("00000000;0;1234567");
        for (int n = 0; n < 6; n++) {
            up.hour();
        }
        Check.due("BOTTLES from all but one", up.whence(4, 7, 2), ALL - bits(0));
        Check.due("BOTTLES from all", up.whence(4, 7, 3), ALL);
    }

    static void promise16_the_first_CELL_and_the_last() {
        LowWater x = Check.shore("99999999;0;00");
        x.hour();
        Check.due("0", x.whence(0, 0, 1), 1);
        Check.due("7", x.whence(0, 7, 1), 128);
    }

    static void promise16_of_each_KIND_its_own_way() {
        LowWater x = Check.shore("00000000;0;21");
        x.hour();
        Check.due("THING", x.whence(0, 3, 1), bits(4));
        Check.due("CORK", x.whence(1, 3, 1), bits(5));
        Check.due("HEAVY", x.whence(2, 3, 1), bits(4));
        Check.due("RING", x.whence(3, 3, 1), bits(3));
        Check.due("BOTTLE", x.whence(4, 3, 1), bits(6));
    }

    static void promise16_what_is_OUT_lies_in_no_CELL() {
        LowWater x = Check.shore("00000000;0;212");
        x.hour();
        x.hour();
        Check.due("from 0 it went OUT", x.whence(0, 0, 2), 0);
        Check.due("from 1", x.whence(0, 1, 2), bits(1));
    }

    static void promise16_by_THE_TIDE_of_those_hours_over_again() {
        LowWater x = Check.shore("00000000;0;123");
        for (int n = 0; n < 5; n++) {
            x.hour();
        }
        Check.due("FLOOD of 1 and 2", x.whence(0, 4, 1), bits(3));
        Check.due("FLOOD twice", x.whence(0, 4, 2), bits(2));
        Check.due("EBB of 3 and 1, FLOOD twice", x.whence(0, 4, 3), bits(3));
        Check.due("FLOOD, EBB, FLOOD twice", x.whence(0, 4, 4), bits(2));
    }

    static void promise16_twelve_hours() {
        LowWater x = Check.shore("00000000;0;11");
        for (int n = 0; n < 12; n++) {
            x.hour();
        }
        Check.due("all stay", x.whence(0, 5, 12), bits(5));
        LowWater y = Check.shore("00000000;0;01");
        for (int n = 0; n < 12; n++) {
            y.hour();
        }
        Check.due("one down in each second hour", y.whence(0, 1, 12), bits(7));
        Check.due("one down in each second hour, to 0", y.whence(0, 0, 12), bits(6));
        Check.due("not to 2", y.whence(0, 2, 12), 0);
        Check.due("eleven hours, to 2", y.whence(0, 1, 11), bits(7));
        Check.due("ten hours, to 2", y.whence(0, 1, 10), bits(6));
    }

    static void promise16_BARGE_as_it_is() {
        LowWater x = Check.shore("00020000;0;12");
        x.barge(3);
        x.hour();
        x.barge(-1);
        Check.due("over none", x.whence(1, 3, 1), bits(1, 2, 3));
        x.barge(3);
        Check.due("over 3", x.whence(1, 3, 1), bits(1));
    }

    // ---- 17 uncovered

    static void promise17_refusals_in_their_order() {
        for (State state : State.values()) {
            for (int cell : Edges.WIDE) {
                int due = Edges.outOf(cell, -1, 7) ? UNKNOWN : state.hasShore() ? 0 : STATE;
                state.asks("uncovered " + cell, due, o -> o.uncovered(cell));
            }
        }
    }

    static void promise17_NONE_is_good() {
        LowWater x = Check.shore("22222222;0;22");
        Check.due("over none, were it over none", x.uncovered(-1), 0);
        x.barge(7);
        Check.due("over 7, were it over none", x.uncovered(-1), bits(6, 7));
        Check.due("over 7, were it there", x.uncovered(7), 0);
    }

    static void promise17_would_be_DRY_and_are_not() {
        LowWater x = Check.shore("23232323;0;33");
        x.barge(3);
        Check.due("over 0", x.uncovered(0), bits(3));
        Check.due("over 4", x.uncovered(4), 0);
        Check.due("over 1", x.uncovered(1), bits(3));
    }

    static void promise17_the_first_CELL_and_the_last() {
        LowWater x = Check.shore("22222222;0;22");
        x.barge(0);
        Check.due("at the lower end", x.uncovered(7), bits(0, 1));
        Check.due("beside", x.uncovered(1), 0);
        Check.due("two off", x.uncovered(2), bits(0));
        x.barge(7);
        Check.due("at the upper end", x.uncovered(0), bits(6, 7));
        Check.due("three off", x.uncovered(4), bits(6, 7));
    }

    static void promise17_in_this_hour() {
        LowWater x = Check.shore("22222222;0;204");
        x.barge(4);
        Check.due("height 2", x.uncovered(-1), bits(3, 4, 5));
        x.hour();
        Check.due("height 0", x.uncovered(-1), 0);
        x.hour();
        Check.due("height 4", x.uncovered(-1), 0);
    }

    // ---- 18 bell

    static void promise18_refusals_in_their_order() {
        for (State state : State.values()) {
            for (int height : Edges.WIDE) {
                int due = Edges.outOf(height, 0, 9) ? OUTSIDE : state.hasShore() ? 0 : STATE;
                // NONE is an answer here, no refusal.
                state.asks("bell " + height, due, o -> o.bell(height));
            }
        }
    }

    static void promise18_0_is_now() {
        LowWater x = Check.shore("00000000;0;05");
        Check.due("height 0", x.bell(0), 0);
        Check.due("equal", Check.shore("00000000;0;50").bell(5), 0);
        Check.due("more", Check.shore("00000000;0;60").bell(5), 0);
        Check.due("9", Check.shore("00000000;0;90").bell(9), 0);
    }

    static void promise18_NONE_is_never() {
        Check.due("9 of 8", Check.shore("00000000;0;88").bell(9), NONE);
        Check.due("1 of 0", Check.shore("00000000;0;00").bell(1), NONE);
        Check.due("0 of 0", Check.shore("00000000;0;00").bell(0), 0);
    }

    static void promise18_the_first_of_several() {
        LowWater x = Check.shore("00000000;0;12345432");
        for (int height = 1; height <= 5; height++) {
            Check.due("height " + height, x.bell(height), height - 1);
        }
        Check.due("height 6", x.bell(6), NONE);
    }

    static void promise18_the_last_hour_ahead_of_over_again() {
        LowWater x = Check.shore("00000000;0;000000000009");
        Check.due("in 11", x.bell(9), 11);
        for (int gone = 1; gone <= 24; gone++) {
            x.hour();
            Check.due(gone + " gone", x.bell(9), (35 - gone) % 12);
        }
        LowWater two = Check.shore("00000000;0;09");
        Check.due("of two heights", two.bell(1), 1);
        two.hour();
        Check.due("of two heights, now", two.bell(1), 0);
    }

    // ---- 19 newStair

    static void promise19_refusals() {
        for (State state : State.values()) {
            state.asks("newStair", state.hasShore() ? 0 : STATE, LowWater::newStair);
        }
    }

    static void promise19_NONE_if_all_have_one() {
        LowWater x = Check.shore("00000000;76543210;00");
        Check.due("without THINGS", x.newStair(), NONE);
        x.thing(0, 3, 50);
        Check.due("with a THING", x.newStair(), NONE);
    }

    static void promise19_the_one_CELL_without() {
        for (int c = 0; c < 8; c++) {
            LowWater x = Check.shore("00000000;" + "01234567".replace("" + c, "") + ";00");
            Check.due("all but " + c, x.newStair(), c);
            x.thing(0, (c + 1) % 8, 50);
            Check.due("all but " + c + ", with a THING elsewhere", x.newStair(), c);
        }
    }

    static void promise19_without_THINGS_the_least() {
        Check.due("STAIR 7", Check.shore("00000000;7;00").newStair(), 0);
        Check.due("STAIR 0", Check.shore("00000000;0;00").newStair(), 1);
        Check.due("STAIRS 0 to 6", Check.shore("00000000;0123456;00").newStair(), 7);
    }

    static void promise19_of_like_ones_the_least() {
        LowWater x = Check.shore("00000000;4;00");
        x.thing(0, 6, 9);
        Check.due("5, 6, 7", x.newStair(), 5);
        x.thing(0, 2, 9);
        Check.due("0 to 3, as much as 5 to 7", x.newStair(), 0);
        x.thing(0, 6, 1);
        Check.due("5, 6, 7 have one more", x.newStair(), 5);
        x.thing(0, 7, 1);
        Check.due("6 and 7, too, have what lies in 7", x.newStair(), 5);
    }

    static void promise19_of_like_near_STAIRS_the_least_CELL() {
        LowWater above = Check.shore("00000000;2;00");
        above.thing(0, 4, 5);
        Check.due("6 is as near as 2, but greater", above.newStair(), 3);
        LowWater below = Check.shore("00000000;6;00");
        below.thing(0, 4, 5);
        Check.due("2 is as near as 6, but less", below.newStair(), 2);
    }

    static void promise19_TAKEN_and_OUT_count_nothing() {
        LowWater x = Check.shore("00000009;3;10");
        x.thing(0, 7, 50);
        x.thing(0, 0, 50);
        x.take(7);
        x.hour();
        Check.due("without any", x.newStair(), 0);
        x.thing(3, 6, 1);
        Check.due("4 to 7 with one", x.newStair(), 4);
    }

    static void promise19_all_eight_of_50() {
        LowWater x = Check.shore("00000000;0;00");
        for (int n = 0; n < 7; n++) {
            x.thing(0, 1, 50);
        }
        x.thing(0, 7, 1);
        Check.due("1 has all", x.newStair(), 1);
    }
}
