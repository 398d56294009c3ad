/** Promises 10 to 14: things, what they are, what is taken, what belongs to a stair. */
public final class ThingsTest {
    public static void main(String[] args) {
        thing();
        about();
        as();
        take();
        share();
        Check.end();
    }

    private static void thing() {
        LowWater x = Check.shore("00000000;0;01");
        Check.refused("10 cell -1", x, Check.UNKNOWN, o -> o.thing(0, -1, 1));
        Check.refused("10 cell 8", x, Check.UNKNOWN, o -> o.thing(0, 8, 1));
        Check.refused("10 kind -1", x, Check.OUTSIDE, o -> o.thing(-1, 0, 1));
        Check.refused("10 kind 5", x, Check.OUTSIDE, o -> o.thing(5, 0, 1));
        Check.refused("10 worth 0", x, Check.OUTSIDE, o -> o.thing(0, 0, 0));
        Check.refused("10 worth 51", x, Check.OUTSIDE, o -> o.thing(0, 0, 51));
        Check.refused("10 UNKNOWN ahead of OUTSIDE", x, Check.UNKNOWN, o -> o.thing(5, 8, 51));
        Check.due("10 OUTSIDE ahead of STATE", new LowWater().thing(5, 0, 1), Check.OUTSIDE);
        Check.due("10 UNKNOWN ahead of STATE", new LowWater().thing(0, 8, 1), Check.UNKNOWN);
        for (int n = 0; n < 8; n++) {
            Check.due("10 number", x.thing(n % 5, n, n == 0 ? 50 : 1), n);
        }
        Check.refused("10 FULL", x, Check.FULL, o -> o.thing(0, 0, 1));
        Check.refused("10 OUTSIDE ahead of FULL", x, Check.OUTSIDE, o -> o.thing(0, 0, 51));
        x.take(0);
        Check.refused("10 FULL with TAKEN ones", x, Check.FULL, o -> o.thing(0, 0, 1));
        Check.due("10 how many", x.count(0), 8);
    }

    private static void about() {
        LowWater x = Check.shore("00000000;25;10");
        int[] stairs = {2, 2, 2, 2, 5, 5, 5, 5};
        for (int c = 0; c < 8; c++) {
            x.thing(c % 5, c, 10 + c);
            Check.due("11 KIND", x.about(c, 0), c % 5);
            Check.due("11 CELL", x.about(c, 1), c);
            Check.due("11 WORTH", x.about(c, 2), 10 + c);
            Check.due("11 nearest STAIR", x.about(c, 3), stairs[c]);
        }
        x.hour();
        Check.due("11 OUT", x.about(0, 1), -2);
        Check.due("11 OUT belongs to none", x.about(0, 3), -1);
        Check.due("11 OUT keeps its WORTH", x.about(0, 2), 10);
        Check.due("11 as it lies", x.about(5, 1), 4);
        x.take(4);
        Check.due("11 TAKEN", x.about(5, 1), -1);
        Check.due("11 TAKEN belongs to none", x.about(5, 3), -1);
        Check.due("11 TAKEN keeps its KIND", x.about(5, 0), 0);
        Check.refused("11 thing -1", x, Check.UNKNOWN, o -> o.about(-1, 0));
        Check.refused("11 thing 8", x, Check.UNKNOWN, o -> o.about(8, 0));
        Check.refused("11 what -1", x, Check.OUTSIDE, o -> o.about(0, -1));
        Check.refused("11 what 4", x, Check.OUTSIDE, o -> o.about(0, 4));
        Check.refused("11 UNKNOWN ahead of OUTSIDE", x, Check.UNKNOWN, o -> o.about(8, 4));
        LowWater even = Check.shore("00000000;62;10");
        even.thing(0, 4, 1);
        Check.due("11 of like ones the least", even.about(0, 3), 2);
        Check.due("11 a number too high", even.about(1, 0), Check.UNKNOWN);
    }

    private static void as() {
        LowWater x = Check.shore("00000000;0;21");
        int[][] is = {{1, 0, 0, 0, 0}, {1, 1, 0, 0, 0}, {1, 0, 1, 0, 0}, {1, 0, 0, 1, 0}, {1, 1, 0, 0, 1}};
        for (int kind = 4; kind >= 0; kind--) {
            int number = x.thing(kind, 0, 1);
            for (int asked = 0; asked < 5; asked++) {
                Check.due("12 " + kind + " as " + asked, x.as(number, asked), is[kind][asked] == 1 ? number : -1);
            }
        }
        x.hour();
        Check.due("12 one OUT", x.as(0, 1), 0);
        Check.refused("12 thing -1", x, Check.UNKNOWN, o -> o.as(-1, 0));
        Check.refused("12 thing 5", x, Check.UNKNOWN, o -> o.as(5, 0));
        Check.refused("12 kind -1", x, Check.OUTSIDE, o -> o.as(0, -1));
        Check.refused("12 kind 5", x, Check.OUTSIDE, o -> o.as(0, 5));
        Check.refused("12 UNKNOWN ahead of OUTSIDE", x, Check.UNKNOWN, o -> o.as(5, 5));
    }

    private static void take() {
        LowWater x = Check.shore("20000000;0;12");
        x.thing(0, 0, 5);
        x.thing(3, 0, 7);
        x.thing(0, 1, 50);
        Check.refused("13 WET", x, Check.STATE, o -> o.take(1));
        Check.refused("13 cell -1", x, Check.UNKNOWN, o -> o.take(-1));
        Check.refused("13 cell 8", x, Check.UNKNOWN, o -> o.take(8));
        Check.due("13 UNKNOWN ahead of STATE", new LowWater().take(8), Check.UNKNOWN);
        Check.due("13 both", x.take(0), 12);
        Check.due("13 none is left", x.take(0), 0);
        Check.due("13 TAKEN", x.about(0, 1), -1);
        Check.due("13 TAKEN, too", x.about(1, 1), -1);
        Check.due("13 the other lies", x.about(2, 1), 1);
        Check.due("13 worth", x.count(5), 12);
        x.barge(1);
        Check.due("13 LEVEL 1 at height 1", x.take(0), 0);
        x.barge(0);
        Check.due("13 WET by THE BARGE", x.take(0), Check.STATE);
    }

    private static void share() {
        LowWater x = Check.shore("90000000;15;10");
        for (int c = 0; c < 8; c++) {
            x.thing(0, c, 1 + c);
        }
        Check.due("14 STAIR 1", x.share(1), 1 + 2 + 3 + 4);
        Check.due("14 STAIR 5", x.share(5), 5 + 6 + 7 + 8);
        x.take(0);
        Check.due("14 TAKEN belongs to none", x.share(1), 2 + 3 + 4);
        x.hour();
        Check.due("14 as they lie then", x.share(1), 2 + 3 + 4 + 5);
        Check.refused("14 no STAIR", x, Check.UNKNOWN, o -> o.share(0));
        Check.refused("14 cell -1", x, Check.UNKNOWN, o -> o.share(-1));
        Check.refused("14 cell 8", x, Check.UNKNOWN, o -> o.share(8));
        LowWater out = Check.shore("00000000;15;10");
        out.thing(0, 0, 9);
        out.hour();
        Check.due("14 OUT belongs to none", out.share(1), 0);
    }
}
