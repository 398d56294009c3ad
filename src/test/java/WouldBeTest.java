/** Promises 15 to 19: what would be. */
public final class WouldBeTest {
    public static void main(String[] args) {
        bestOnDryMud();
        bestCannot();
        bestAsThingsDrift();
        bestRefused();
        bestFortyTimes();
        whence();
        uncovered();
        bell();
        newStair();
        Check.end();
    }

    private static void best(String what, LowWater x, int cell, int hours, int most, int first) {
        long before = x.digest();
        int done = x.count(9);
        Check.due("15 " + what + ", how much", x.best(cell, hours, 0), most);
        Check.due("15 " + what + ", whither", x.best(cell, hours, 1), first);
        Check.due("15 " + what + ", how often", x.count(9), done + 2);
        Check.due("15 " + what + " changes nothing else", x.digest(), before + 2);
    }

    private static void bestOnDryMud() {
        LowWater x = Check.shore("00000000;04;00");
        x.thing(0, 0, 5);
        x.thing(0, 1, 10);
        x.thing(0, 2, 20);
        x.thing(0, 4, 1);
        best("where it stays", x, 0, 0, 5, 0);
        best("one hour", x, 0, 1, 5, 0);
        best("there and back", x, 0, 2, 15, 1);
        best("of like ones the least", x, 0, 3, 15, 0);
        best("to the other STAIR", x, 0, 4, 36, 1);
        best("to the other STAIR and lower", x, 4, 4, 36, 3);
        best("a longer way", x, 4, 5, 36, 3);
        best("seven hours", x, 0, 7, 36, 0);
        best("without a STAIR", x, 1, 1, -1, -1);
        LowWater end = Check.shore("00000000;7;00");
        end.thing(0, 6, 3);
        end.thing(0, 6, 4);
        best("at the end of the row", end, 7, 2, 7, 6);
        best("each WORTH but once", end, 7, 4, 7, 6);
        LowWater bare = Check.shore("00000000;3;00");
        best("nothing to take", bare, 3, 2, 0, 2);
        best("nothing to take, one hour", bare, 3, 1, 0, 3);
        best("nothing to take, no hour", bare, 3, 0, 0, 3);
        LowWater all = Check.shore("00000000;3;00");
        for (int i = 0; i < 8; i++) {
            all.thing(3, 3, 50);
        }
        best("all in one CELL", all, 3, 0, 400, 3);
    }

    private static void bestCannot() {
        LowWater wet = Check.shore("30000000;0;3333334");
        wet.thing(0, 0, 9);
        best("LEVEL as high as THE TIDE", wet, 0, 5, 9, 0);
        best("WET in the last hour", wet, 0, 6, -1, -1);
        best("WET between", wet, 0, 7, -1, -1);
        LowWater begun = Check.shore("30000000;0;43");
        best("WET where it begins", begun, 0, 0, -1, -1);
        best("WET where it begins, an hour", begun, 0, 1, -1, -1);
        LowWater scoured = Check.shore("33000000;01;22");
        scoured.thing(3, 0, 9);
        best("over dry mud", scoured, 1, 2, 9, 0);
        scoured.barge(0);
        best("not over what THE BARGE scours", scoured, 1, 2, 0, 1);
        LowWater away = Check.shore("33330000;03;33233");
        away.thing(3, 1, 4);
        away.thing(3, 2, 8);
        best("over dry mud to the other STAIR", away, 0, 3, 12, 1);
        LowWater cut = Check.shore("34240000;03;33334");
        best("the way is WET", cut, 0, 4, -1, -1);
    }

    private static void bestAsThingsDrift() {
        LowWater flood = Check.shore("00002999;4;12");
        flood.thing(0, 3, 9);
        best("not there yet", flood, 4, 0, 0, 4);
        best("it comes by FLOOD", flood, 4, 1, 9, 4);
        Check.due("15 THINGS lie as they lay", flood.about(0, 1), 3);
        Check.due("15 hour as it was", flood.count(1), 0);
        LowWater ebb = Check.shore("22220000;12;210210213");
        ebb.thing(0, 4, 9);
        best("it comes by EBB", ebb, 2, 2, 9, 3);
        ebb.hour();
        best("an hour later", ebb, 2, 0, 0, 2);
        best("an hour later, an hour", ebb, 2, 1, 0, 1);
        best("an hour later, two", ebb, 2, 2, 9, 3);
        best("an hour later, WET in the end", ebb, 2, 7, -1, -1);
        LowWater left = Check.shore("00002999;34;0120");
        left.thing(0, 3, 9);
        best("it lies there", left, 3, 0, 9, 3);
        left.hour();
        left.hour();
        left.hour();
        best("it lies there no more", left, 3, 0, 0, 3);
        best("it lies there now", left, 4, 0, 9, 4);
        LowWater taken = Check.shore("90000000;0;00");
        taken.thing(0, 0, 9);
        taken.take(0);
        best("TAKEN already", taken, 0, 2, 0, 0);
    }

    private static void bestRefused() {
        LowWater x = Check.shore("00000000;0;00");
        Check.refused("15 cell -1", x, Check.UNKNOWN, o -> o.best(-1, 0, 0));
        Check.refused("15 cell 8", x, Check.UNKNOWN, o -> o.best(8, 0, 0));
        Check.refused("15 hours -1", x, Check.OUTSIDE, o -> o.best(0, -1, 0));
        Check.refused("15 hours 8", x, Check.OUTSIDE, o -> o.best(0, 8, 0));
        Check.refused("15 what -1", x, Check.OUTSIDE, o -> o.best(0, 0, -1));
        Check.refused("15 what 2", x, Check.OUTSIDE, o -> o.best(0, 0, 2));
        Check.refused("15 UNKNOWN ahead of OUTSIDE", x, Check.UNKNOWN, o -> o.best(8, 8, 2));
        Check.due("15 OUTSIDE ahead of STATE", new LowWater().best(0, 8, 0), Check.OUTSIDE);
        Check.due("15 UNKNOWN ahead of STATE", new LowWater().best(8, 0, 0), Check.UNKNOWN);
    }

    private static void bestFortyTimes() {
        LowWater x = Check.shore("00000000;0;00");
        for (int i = 0; i < 40; i++) {
            x.best(8, 0, 0);
            x.best(0, 8, 0);
            Check.due("15 time " + i, x.best(i % 2, 0, 0), i % 2 == 0 ? 0 : -1);
            if (i == 20) {
                Check.write(x, "00000000;0;00");
                x.shore();
            }
        }
        Check.due("15 forty", x.count(9), 40);
        Check.refused("15 once more", x, Check.STATE, o -> o.best(0, 0, 0));
        Check.refused("15 OUTSIDE still first", x, Check.OUTSIDE, o -> o.best(0, 8, 0));
        Check.write(x, "00000000;0;00");
        x.shore();
        Check.refused("15 ever", x, Check.STATE, o -> o.best(0, 0, 0));
    }

    private static int bits(int... cells) {
        int bits = 0;
        for (int c : cells) {
            bits |= 1 << c;
        }
        return bits;
    }

    private static void whence() {
        LowWater x = Check.shore("00000000;0;123");
        Check.refused("16 none has gone", x, Check.STATE, o -> o.whence(0, 0, 1));
        x.hour();
        Check.due("16 THING", x.whence(0, 3, 1), bits(2));
        Check.due("16 CORK", x.whence(1, 3, 1), bits(1));
        Check.due("16 HEAVY", x.whence(2, 3, 1), bits(3));
        Check.due("16 RING", x.whence(3, 3, 1), bits(3));
        Check.due("16 BOTTLE", x.whence(4, 3, 1), bits(0));
        Check.due("16 at the end", x.whence(4, 7, 1), bits(4, 5, 6, 7));
        Check.due("16 nowhere", x.whence(0, 0, 1), 0);
        Check.refused("16 fewer have gone", x, Check.STATE, o -> o.whence(0, 0, 2));
        x.hour();
        x.hour();
        Check.due("16 two FLOODS and an EBB", x.whence(0, 3, 3), bits(2));
        Check.due("16 the last hour", x.whence(0, 3, 1), bits(4));
        Check.due("16 from beyond the end", x.whence(0, 7, 1), 0);
        Check.due("16 two FLOODS and an EBB, end", x.whence(0, 6, 3), bits(5, 6, 7));
        for (int i = 0; i < 10; i++) {
            x.hour();
        }
        Check.due("16 twelve", x.whence(3, 5, 12), bits(5));
        Check.refused("16 kind -1", x, Check.OUTSIDE, o -> o.whence(-1, 0, 1));
        Check.refused("16 kind 5", x, Check.OUTSIDE, o -> o.whence(5, 0, 1));
        Check.refused("16 cell -1", x, Check.UNKNOWN, o -> o.whence(0, -1, 1));
        Check.refused("16 cell 8", x, Check.UNKNOWN, o -> o.whence(0, 8, 1));
        Check.refused("16 hours 0", x, Check.OUTSIDE, o -> o.whence(0, 0, 0));
        Check.refused("16 hours 13", x, Check.OUTSIDE, o -> o.whence(0, 0, 13));
        Check.refused("16 kind ahead of cell", x, Check.OUTSIDE, o -> o.whence(5, 8, 1));
        Check.refused("16 cell ahead of hours", x, Check.UNKNOWN, o -> o.whence(0, 8, 13));
        Check.due("16 hours ahead of STATE", new LowWater().whence(0, 0, 13), Check.OUTSIDE);
        LowWater scoured = Check.shore("00020000;0;12");
        scoured.hour();
        Check.due("16 it stops there", scoured.whence(1, 3, 1), bits(1, 2, 3));
        scoured.barge(3);
        Check.due("16 THE BARGE as it is", scoured.whence(1, 3, 1), bits(1));
    }

    private static void uncovered() {
        LowWater x = Check.shore("44444421;0;33");
        Check.due("17 over none", x.uncovered(-1), 0);
        Check.due("17 over 3", x.uncovered(3), 0);
        x.barge(3);
        Check.due("17 away", x.uncovered(-1), bits(3));
        Check.due("17 as it lies", x.uncovered(3), 0);
        Check.due("17 beside", x.uncovered(4), bits(3));
        Check.due("17 far off", x.uncovered(0), bits(3));
        Check.due("17 it stays", x.barge(3), 3);
        LowWater high = Check.shore("33333333;0;33");
        high.barge(0);
        Check.due("17 all three", high.uncovered(7), bits(0, 1));
        Check.due("17 all but one beside", high.uncovered(2), bits(0));
        Check.due("17 over none, not left of 0", high.uncovered(-1), bits(0, 1));
        Check.refused("17 cell -2", high, Check.UNKNOWN, o -> o.uncovered(-2));
        Check.refused("17 cell 8", high, Check.UNKNOWN, o -> o.uncovered(8));
        Check.due("17 UNKNOWN ahead of STATE", new LowWater().uncovered(8), Check.UNKNOWN);
    }

    private static void bell() {
        LowWater x = Check.shore("00000000;0;2351");
        Check.due("18 0", x.bell(0), 0);
        Check.due("18 2", x.bell(2), 0);
        Check.due("18 3", x.bell(3), 1);
        Check.due("18 4", x.bell(4), 2);
        Check.due("18 5", x.bell(5), 2);
        Check.due("18 6", x.bell(6), -1);
        Check.due("18 9", x.bell(9), -1);
        x.hour();
        x.hour();
        x.hour();
        Check.due("18 2, later", x.bell(2), 1);
        Check.due("18 5, later", x.bell(5), 3);
        Check.refused("18 -1", x, Check.OUTSIDE, o -> o.bell(-1));
        Check.refused("18 10", x, Check.OUTSIDE, o -> o.bell(10));
        Check.due("18 OUTSIDE ahead of STATE", new LowWater().bell(10), Check.OUTSIDE);
    }

    private static void newStair() {
        LowWater x = Check.shore("90000000;03;10");
        Check.due("19 nothing lies there", x.newStair(), 1);
        x.thing(0, 7, 5);
        Check.due("19 of like ones the least", x.newStair(), 4);
        x.thing(3, 1, 6);
        Check.due("19 more elsewhere", x.newStair(), 1);
        x.thing(3, 5, 2);
        Check.due("19 two together", x.newStair(), 4);
        LowWater drifts = Check.shore("00000000;4;10");
        drifts.thing(0, 3, 5);
        Check.due("19 as it lies", drifts.newStair(), 2);
        drifts.hour();
        Check.due("19 as it lies then", drifts.newStair(), 0);
        for (int i = 0; i < 6; i++) {
            drifts.hour();
        }
        drifts.thing(3, 6, 1);
        Check.due("19 not what is OUT", drifts.newStair(), 5);
        LowWater even = Check.shore("00000000;2;00");
        even.thing(0, 3, 5);
        Check.due("19 none by a like way", even.newStair(), 3);
        LowWater lower = Check.shore("00000000;4;00");
        lower.thing(0, 3, 5);
        Check.due("19 a like way by the least", lower.newStair(), 2);
        LowWater taken = Check.shore("90000009;04;00");
        taken.thing(0, 7, 50);
        taken.thing(0, 2, 1);
        Check.due("19 the most", taken.newStair(), 5);
        taken.take(7);
        Check.due("19 TAKEN ones do not count", taken.newStair(), 1);
        Check.due("19 all have one", Check.shore("00000000;76543210;00").newStair(), -1);
        Check.due("19 the last without", Check.shore("00000000;6543210;00").newStair(), 7);
    }
}
