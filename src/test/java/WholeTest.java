/** Promises 24 to 27: the image, what is counted, the digest. */
public final class WholeTest {
    public static void main(String[] args) {
        imageAndRestore();
        restoreRefused();
        restoreKeeps();
        count();
        digestOfNothing();
        digest();
        Check.end();
    }

    private static LowWater full() {
        LowWater x = Check.shore("20415263;36;2507");
        x.thing(0, 1, 10);
        x.thing(1, 3, 20);
        x.thing(4, 5, 30);
        x.barge(2);
        x.mark(1, 4);
        x.then(5);
        x.hour();
        return x;
    }

    private static void imageAndRestore() {
        LowWater x = full();
        long before = x.digest();
        Check.due("24 the hour", x.image(), 1);
        Check.due("24 changes nothing told", x.digest(), before);
        x.hour();
        x.hour();
        x.barge(7);
        x.then(6);
        x.mark(9, 1);
        x.take(x.about(0, 1));
        Check.due("25 the hour", x.restore(), 1);
        Check.due("25 all as it was", x.digest(), before);
        Check.due("25 the barge", x.barge(2), 2);
        x.hour();
        Check.due("25 once more", x.restore(), 1);
        Check.due("25 all as it was, once more", x.digest(), before);
        Check.due("25 the hour of the MARKS", x.fits(), full().fits());
        LowWater y = Check.shore("00000000;0;121");
        y.mark(1, 3);
        y.then(2);
        y.image();
        y.mark(0, 3);
        y.then(2);
        Check.due("25 MARKS of another hour", y.fits(), 0);
        y.restore();
        Check.due("25 the hour in which MARKS begin", y.fits(), 1 + 4);
        x.hour();
        long later = x.digest();
        Check.due("24 the latest", x.image(), 2);
        x.hour();
        Check.due("25 the latest", x.restore(), 2);
        Check.due("25 all as it was later", x.digest(), later);
    }

    private static void restoreRefused() {
        LowWater x = full();
        Check.refused("25 none was kept", x, Check.STATE, LowWater::restore);
        x.image();
        x.thing(5, 0, 1);
        Check.due("25 a refused THING is none", x.restore(), 1);
        x.thing(3, 0, 1);
        Check.refused("25 THINGS came", x, Check.STATE, LowWater::restore);
        x.take(0);
        Check.refused("25 THINGS came and were TAKEN", x, Check.STATE, LowWater::restore);
        x.image();
        Check.due("25 kept anew", x.restore(), 1);
        Check.due("25 four THINGS", x.count(0), 4);
        Check.write(x, "20415263;36;25");
        x.shore();
        Check.refused("25 another SHORE", x, Check.STATE, LowWater::restore);
        for (int i = 0; i < 4; i++) {
            x.thing(0, 0, 1);
        }
        Check.refused("25 another SHORE, as many THINGS", x, Check.STATE, LowWater::restore);
        LowWater bare = Check.shore("20415263;36;25");
        Check.refused("25 none was kept, no THINGS", bare, Check.STATE, LowWater::restore);
        bare.image();
        Check.write(bare, "20415263;36;25");
        bare.shore();
        Check.refused("25 another SHORE, no THINGS", bare, Check.STATE, LowWater::restore);
        Check.refused("24 no SHORE", new LowWater(), Check.STATE, LowWater::image);
        Check.refused("25 no SHORE", new LowWater(), Check.STATE, LowWater::restore);
    }

    private static void restoreKeeps() {
        LowWater x = Check.shore("99999999;0;12");
        x.image();
        x.best(0, 0, 0);
        Check.write(x, "abc");
        x.mark(0, 0);
        Check.due("25 hour 0", x.restore(), 0);
        Check.due("25 the page stays", x.count(7), 3);
        Check.due("25 best() stays", x.count(9), 1);
        Check.due("25 MARKS had not begun", x.fits(), Check.STATE);
        LowWater y = Check.shore("99999999;0;12");
        y.thing(0, 3, 8);
        y.image();
        y.take(3);
        Check.due("25 TAKEN", y.count(5), 8);
        y.restore();
        Check.due("25 not TAKEN", y.count(5), 0);
        Check.due("25 it lies there", y.about(0, 1), 3);
        y.take(3);
        y.image();
        y.restore();
        Check.due("25 TAKEN stays", y.count(5), 8);
        y.hour();
        y.restore();
        Check.due("25 hours that have gone", y.whence(0, 0, 1), Check.STATE);
    }

    private static void counts(LowWater x, String what, int... want) {
        for (int i = 0; i < want.length; i++) {
            Check.due("26 " + what + " " + i, x.count(i), want[i]);
        }
    }

    private static void count() {
        LowWater x = Check.shore("90000000;704;210");
        counts(x, "at first", 0, 0, 3, 3, 0, 0, 0, 0, 1, 0);
        x.thing(0, 0, 5);
        x.thing(3, 0, 6);
        x.thing(0, 1, 7);
        x.thing(1, 3, 8);
        x.take(0);
        x.mark(0, 0);
        x.then(0);
        Check.write(x, "ab");
        x.best(0, 0, 0);
        x.best(1, 0, 0);
        x.best(0, 0, 1);
        counts(x, "then", 4, 0, 3, 3, 2, 11, 2, 2, 1, 3);
        x.hour();
        counts(x, "an hour later", 4, 1, 3, 3, 2, 11, 2, 2, 1, 3);
        LowWater out = Check.shore("00000000;0;21");
        out.thing(4, 1, 5);
        out.thing(0, 1, 5);
        out.hour();
        counts(out, "one OUT", 2, 1, 1, 2, 1, 0, 0, 0, 1, 0);
        Check.refused("26 -1", x, Check.OUTSIDE, o -> o.count(-1));
        Check.refused("26 10", x, Check.OUTSIDE, o -> o.count(10));
        Check.due("26 without SHORE", new LowWater().count(10), Check.OUTSIDE);
    }

    private static void digestOfNothing() {
        long h = 691;
        for (int i = 0; i < 10; i++) {
            h *= 31;
        }
        Check.due("27 of nothing", new LowWater().digest(), h);
        long page = (691 * 31 + 'a') * 31 + 1;
        for (int i = 0; i < 10; i++) {
            page = page * 31 + (i == 7 ? 2 : 0);
        }
        LowWater x = Check.page("a\u0001");
        Check.due("27 of a page", x.digest(), page);
        Check.due("27 once more", x.digest(), page);
    }

    private static void digest() {
        LowWater fitted = full();
        digestOf("no KIND fits", fitted);
        fitted.mark(1, 4);
        digestOf("all KINDS fit", fitted);
        fitted.then(4);
        digestOf("some fit", fitted);
        digestOfAllStairs();
    }

    /** Of what full() made, with other MARKS. */
    private static void digestOf(String what, LowWater x) {
        Check.write(x, "zy");
        int[] heights = {2, 5, 0, 7};
        long h = 691;
        for (int c = 0; c < 8; c++) {
            for (int i = 0; i < 4; i++) {
                h = 31 * h + x.cell(c, i);
            }
        }
        for (int height : heights) {
            h = 31 * h + height;
        }
        h = 31 * h + 2;
        h = 31 * h + x.newStair();
        for (int t = 0; t < 3; t++) {
            for (int i = 0; i < 4; i++) {
                h = 31 * h + x.about(t, i);
            }
        }
        h = 31 * h + x.fits();
        h = (31 * h + 'z') * 31 + 'y';
        for (int i = 0; i < 10; i++) {
            h = 31 * h + x.count(i);
        }
        Check.due("27 " + what, x.digest(), h);
        x.blank();
    }

    private static void digestOfAllStairs() {
        LowWater all = Check.shore("00000000;01234567;12");
        long bare = 691;
        for (int c = 0; c < 8; c++) {
            bare = (((31 * bare) * 31 + 1) * 31 + 0) * 31;
        }
        bare = (bare * 31 + 1) * 31 + 2;
        bare = (bare * 31 - 1) * 31 - 1;
        int[] counts = {0, 0, 8, 2, 0, 0, 0, 0, 1, 0};
        for (int n : counts) {
            bare = bare * 31 + n;
        }
        Check.due("27 of a bare SHORE, all STAIRS", all.digest(), bare);
    }
}
