/** Promises 1 to 9: the page, the shore, the tide, the barge, the hours. */
public final class ShoreTest {
    private static final String FLAT = "00000000";

    public static void main(String[] args) {
        newObject();
        letters();
        blank();
        fault();
        shore();
        anotherShore();
        cell();
        tide();
        barge();
        hourFlood();
        hourEbb();
        hourStops();
        hourCounts();
        Check.end();
    }

    private static void newObject() {
        LowWater x = new LowWater();
        Check.refused("1 cell", x, Check.STATE, o -> o.cell(0, 0));
        Check.refused("1 tide", x, Check.STATE, o -> o.tide(0));
        Check.refused("1 barge", x, Check.STATE, o -> o.barge(0));
        Check.refused("1 barge of none", x, Check.STATE, o -> o.barge(-1));
        Check.refused("1 hour", x, Check.STATE, LowWater::hour);
        Check.refused("1 thing", x, Check.STATE, o -> o.thing(0, 0, 1));
        Check.refused("1 about", x, Check.UNKNOWN, o -> o.about(0, 0));
        Check.refused("1 take", x, Check.STATE, o -> o.take(0));
        Check.refused("1 share", x, Check.UNKNOWN, o -> o.share(0));
        Check.refused("1 best", x, Check.STATE, o -> o.best(0, 0, 0));
        Check.refused("1 whence", x, Check.STATE, o -> o.whence(0, 0, 1));
        Check.refused("1 uncovered", x, Check.STATE, o -> o.uncovered(0));
        Check.refused("1 bell", x, Check.STATE, o -> o.bell(0));
        Check.refused("1 newStair", x, Check.STATE, LowWater::newStair);
        Check.refused("1 mark", x, Check.STATE, o -> o.mark(0, 0));
        Check.refused("1 then", x, Check.STATE, o -> o.then(0));
        Check.refused("1 fits", x, Check.STATE, LowWater::fits);
        Check.refused("1 days", x, Check.STATE, o -> o.days(1, 0, 0));
        Check.refused("1 image", x, Check.STATE, LowWater::image);
        Check.refused("1 restore", x, Check.STATE, LowWater::restore);
        Check.refused("1 shore", x, Check.STATE, LowWater::shore);
        Check.due("1 fault", x.fault(), 0);
        Check.due("1 blank", x.blank(), 0);
        for (int what = 0; what < 10; what++) {
            Check.due("1 count " + what, x.count(what), 0);
        }
    }

    private static void letters() {
        LowWater x = new LowWater();
        Check.due("2 none", x.letters(0), 0);
        Check.due("2 one", x.letters(1), 1);
        Check.due("2 highest", x.letters(126), 2);
        Check.due("2 three", x.letters(Check.word("abc")), 5);
        Check.due("2 eight", x.letters(Check.word("abcdefgh")), 13);
        Check.refused("2 above 126", x, Check.OUTSIDE, o -> o.letters(127));
        Check.refused("2 above 127", x, Check.OUTSIDE, o -> o.letters(128));
        Check.refused("2 highest byte", x, Check.OUTSIDE, o -> o.letters(-1));
        Check.refused("2 eighth byte", x, Check.OUTSIDE, o -> o.letters(Long.MIN_VALUE | Check.word("abcdefg")));
        Check.refused("2 second byte", x, Check.OUTSIDE, o -> o.letters(0x7F61L));
        Check.refused("2 behind a first 0", x, Check.OUTSIDE, o -> o.letters(0x6100L));
        Check.refused("2 behind a 0", x, Check.OUTSIDE, o -> o.letters(0x0100000000000061L));
        Check.due("2 to 21", x.letters(Check.word("abcdefgh")), 21);
        Check.due("2 to 29", x.letters(Check.word("abcdefgh")), 29);
        Check.refused("2 to 33", x, Check.FULL, o -> o.letters(Check.word("abcd")));
        Check.refused("2 OUTSIDE ahead of FULL", x, Check.OUTSIDE, o -> o.letters(Check.word("abcd") | 0xFF00000000L));
        Check.due("2 to 32", x.letters(Check.word("abc")), 32);
        Check.due("2 none on a full page", x.letters(0), 32);
        Check.refused("2 one above", x, Check.FULL, o -> o.letters(1));
        Check.due("2 count", x.count(7), 32);

        LowWater twice = new LowWater();
        twice.letters(Check.word("0123456"));
        Check.due("2 behind", twice.letters(Check.word("7;")), 9);
        Check.due("2 in order", twice.fault(), 9);
    }

    private static void blank() {
        LowWater x = Check.page("abc");
        Check.due("3 three", x.blank(), 3);
        Check.due("3 none", x.blank(), 0);
        Check.due("3 anew", x.letters(Check.word("0")), 1);
        Check.due("3 its first place", x.fault(), 1);
    }

    private static void faultOf(String text, int want) {
        Check.due("4 " + text, Check.page(text).fault(), want);
    }

    private static void fault() {
        faultOf("", 0);
        faultOf("x", 0);
        faultOf("/", 0);
        faultOf(":", 0);
        faultOf("0", 1);
        faultOf("9", 1);
        faultOf("0123;", 4);
        faultOf("01234567", 8);
        faultOf("012345678", 8);
        faultOf("01234567;", 9);
        faultOf("01234567;;", 9);
        faultOf("01234567;8", 9);
        faultOf("01234567;/", 9);
        faultOf("01234567;0", 10);
        faultOf("01234567;00", 10);
        faultOf("01234567;121", 11);
        faultOf("01234567;7;", 11);
        faultOf("01234567;7;;", 11);
        faultOf("01234567;76543210", 17);
        faultOf("01234567;765432101", 17);
        faultOf("01234567;76543210;", 18);
        faultOf("01234567;7;9", 12);
        faultOf("01234567;7;9a", 12);
        faultOf("01234567;7;90;", 13);
        faultOf("01234567;7;012345678901", 23);
        faultOf("01234567;7;0123456789012", 23);
        faultOf("01234567;76543210;012345678901", 30);
        faultOf("01234567;76543210;01234567890123", 30);
        faultOf("x1234567;7;90", 0);
    }

    private static void noShore(String text) {
        LowWater x = Check.page(text);
        Check.refused("5 " + text, x, Check.STATE, LowWater::shore);
        Check.due("5 page stays " + text, x.count(7), text.length());
        Check.due("5 none was read " + text, x.count(8), 0);
    }

    private static void shore() {
        noShore("");
        noShore("01234567");
        noShore("01234567;");
        noShore("01234567;1");
        noShore("01234567;1;");
        noShore("01234567;1;2");
        noShore("01234567;11;22");
        noShore("01234567;1;22;");
        noShore("01234567;1;2222222222222");
        noShore("0123456;1;22");
        noShore("01234567;8;22");
        LowWater x = Check.page("01234567;1;22");
        Check.due("5 two heights", x.shore(), 2);
        Check.due("5 page is empty", x.count(7), 0);
        Check.due("5 fault of the empty page", x.fault(), 0);
        Check.due("5 once", x.count(8), 1);
        Check.due("5 most", Check.page("01234567;76543210;012345678901").shore(), 12);
    }

    private static void anotherShore() {
        LowWater x = Check.shore("00000000;0;55");
        x.thing(0, 3, 5);
        x.thing(0, 4, 7);
        x.barge(3);
        x.mark(0, 0);
        x.hour();
        Check.write(x, "12345678;12;0123");
        Check.due("5 another", x.shore(), 4);
        Check.due("5 THINGS are gone", x.count(0), 0);
        Check.due("5 hour 0", x.count(1), 0);
        Check.due("5 STAIRS", x.count(2), 2);
        Check.due("5 old STAIR is gone", x.cell(0, 1), 0);
        Check.due("5 heights", x.count(3), 4);
        Check.due("5 none lies there", x.cell(3, 3), 0);
        Check.due("5 MARKS are gone", x.count(6), 0);
        Check.due("5 fits", x.fits(), Check.STATE);
        Check.due("5 THE BARGE is gone", x.barge(2), -1);
        Check.due("5 twice", x.count(8), 2);
        Check.due("5 numbers begin anew", x.thing(1, 1, 1), 0);
        Check.write(x, "12345678;12;012345");
        x.blank();
        Check.refused("5 a refused one", x, Check.STATE, LowWater::shore);
        Check.due("5 THINGS stay", x.count(0), 1);
    }

    private static void cell() {
        LowWater x = Check.shore("90123456;27;3055");
        int[] levels = {9, 0, 1, 2, 3, 4, 5, 6};
        int[] dry = {1, 0, 0, 0, 1, 1, 1, 1};
        for (int c = 0; c < 8; c++) {
            Check.due("6 LEVEL " + c, x.cell(c, 0), levels[c]);
            Check.due("6 STAIR " + c, x.cell(c, 1), c == 2 || c == 7 ? 1 : 0);
            Check.due("6 DRY " + c, x.cell(c, 2), dry[c]);
            Check.due("6 none " + c, x.cell(c, 3), 0);
        }
        x.thing(0, 5, 1);
        x.thing(3, 5, 1);
        Check.due("6 two lie there", x.cell(5, 3), 2);
        x.take(5);
        Check.due("6 TAKEN ones do not", x.cell(5, 3), 0);
        x.hour();
        Check.due("6 DRY in the next hour", x.cell(1, 2), 1);
        Check.refused("6 cell -1", x, Check.UNKNOWN, o -> o.cell(-1, 0));
        Check.refused("6 cell 8", x, Check.UNKNOWN, o -> o.cell(8, 0));
        Check.refused("6 what -1", x, Check.OUTSIDE, o -> o.cell(0, -1));
        Check.refused("6 what 4", x, Check.OUTSIDE, o -> o.cell(7, 4));
        Check.refused("6 UNKNOWN ahead of OUTSIDE", x, Check.UNKNOWN, o -> o.cell(8, 4));
        Check.due("6 OUTSIDE ahead of STATE", new LowWater().cell(0, 4), Check.OUTSIDE);
        Check.due("6 UNKNOWN ahead of STATE", new LowWater().cell(8, 0), Check.UNKNOWN);
    }

    private static void tide() {
        LowWater x = Check.shore("00000000;0;172");
        int[] heights = {1, 7, 2};
        for (int h = 0; h < 100; h++) {
            Check.due("7 in " + h, x.tide(h), heights[h % 3]);
        }
        x.hour();
        Check.due("7 an hour later", x.tide(0), 7);
        Check.due("7 an hour later, in 99", x.tide(99), 7);
        Check.due("7 an hour later, in 98", x.tide(98), 1);
        Check.refused("7 -1", x, Check.OUTSIDE, o -> o.tide(-1));
        Check.refused("7 100", x, Check.OUTSIDE, o -> o.tide(100));
        Check.due("7 OUTSIDE ahead of STATE", new LowWater().tide(100), Check.OUTSIDE);
    }

    private static void barge() {
        LowWater x = Check.shore("43333333;0;3232");
        Check.due("8 over none at first", x.barge(0), -1);
        Check.due("8 2 less there", x.cell(0, 2), 0);
        Check.due("8 1 less beside", x.cell(1, 2), 0);
        Check.due("8 not two off", x.cell(2, 2), 1);
        Check.due("8 LEVEL as told", x.cell(0, 0), 4);
        Check.due("8 it lay over 0", x.barge(7), 0);
        Check.due("8 not the other end", x.cell(0, 2), 1);
        Check.due("8 below", x.cell(6, 2), 0);
        Check.due("8 it lay over 7", x.barge(-1), 7);
        for (int c = 0; c < 8; c++) {
            Check.due("8 over none " + c, x.cell(c, 2), 1);
        }
        Check.due("8 it lay over none", x.barge(4), -1);
        x.hour();
        Check.due("8 LEVEL 1 at height 2", x.cell(4, 2), 0);
        Check.due("8 LEVEL 2 at height 2", x.cell(5, 2), 1);
        Check.due("8 it stays", x.barge(4), 4);
        LowWater high = Check.shore("99999999;0;78");
        high.barge(4);
        Check.due("8 2 less, no more", high.cell(4, 2), 1);
        high.hour();
        Check.due("8 2 less at height 8", high.cell(4, 2), 0);
        Check.due("8 1 less at height 8", high.cell(3, 2), 1);
        Check.due("8 1 less above at height 8", high.cell(5, 2), 1);
        Check.refused("8 cell -2", x, Check.UNKNOWN, o -> o.barge(-2));
        Check.refused("8 cell 8", x, Check.UNKNOWN, o -> o.barge(8));
        Check.due("8 UNKNOWN ahead of STATE", new LowWater().barge(8), Check.UNKNOWN);
        LowWater low = Check.shore("00100000;0;01");
        low.barge(1);
        Check.due("8 0 at least", low.cell(1, 2), 1);
        Check.due("8 0 at least beside", low.cell(0, 2), 1);
        Check.due("8 0 beside", low.cell(2, 2), 1);
    }

    /** All KINDS in one CELL, and where each lies in the next hour. */
    private static void drift(String text, int cell, int... want) {
        LowWater x = Check.shore(text);
        int moved = 0;
        for (int kind = 0; kind < 5; kind++) {
            x.thing(kind, cell, 1);
            moved += want[kind] == cell ? 0 : 1;
        }
        String what = "9 " + text + " from " + cell;
        Check.due(what + ", how many", x.hour(), moved);
        for (int kind = 0; kind < 5; kind++) {
            Check.due(what + ", kind " + kind, x.about(kind, 1), want[kind]);
        }
        Check.due(what + ", the hour", x.count(1), 1);
    }

    private static void hourFlood() {
        drift(FLAT + ";0;12", 0, 1, 2, 0, 0, 3);
        drift(FLAT + ";0;12", 3, 4, 5, 3, 3, 6);
        drift(FLAT + ";0;12", 5, 6, 7, 5, 5, 7);
        drift(FLAT + ";0;12", 6, 7, 7, 6, 6, 7);
        drift(FLAT + ";0;12", 7, 7, 7, 7, 7, 7);
        drift(FLAT + ";0;02", 3, 3, 3, 3, 3, 3);
        drift(FLAT + ";0;22", 3, 3, 3, 3, 3, 3);
        drift("00030000;0;34", 3, 3, 3, 3, 3, 3);
        drift("00020000;0;34", 3, 4, 5, 3, 3, 6);
    }

    private static void hourEbb() {
        drift(FLAT + ";0;21", 7, 6, 5, 6, 7, 4);
        drift(FLAT + ";0;21", 3, 2, 1, 2, 3, 0);
        drift(FLAT + ";0;21", 2, 1, 0, 1, 2, -2);
        drift(FLAT + ";0;21", 1, 0, -2, 0, 1, -2);
        drift(FLAT + ";0;21", 0, -2, -2, -2, 0, -2);
        drift(FLAT + ";0;20", 3, 2, 2, 2, 3, 2);
        drift(FLAT + ";0;20", 0, -2, -2, -2, 0, -2);
        drift(FLAT + ";0;20", 1, 0, 0, 0, 1, 0);
    }

    private static void hourStops() {
        drift("00000400;0;34", 3, 4, 5, 3, 3, 5);
        drift("00004400;0;34", 3, 4, 4, 3, 3, 4);
        drift("00003300;0;34", 3, 4, 5, 3, 3, 6);
        drift("00002000;0;32", 6, 5, 4, 5, 6, 4);
        drift("00001000;0;32", 6, 5, 4, 5, 6, 3);
        drift("00000300;0;232", 4, 5, 5, 4, 4, 5);
        drift("00000300;0;234", 4, 5, 5, 4, 4, 5);
        drift("00020000;0;323", 4, 3, 3, 3, 4, 3);
        drift("00020000;0;321", 4, 3, 3, 3, 4, 3);
        LowWater scoured = Check.shore("00000500;0;34");
        scoured.barge(5);
        scoured.thing(4, 3, 1);
        scoured.hour();
        Check.due("9 over what THE BARGE scours", scoured.about(0, 1), 6);
    }

    private static void hourCounts() {
        LowWater x = Check.shore(FLAT + ";0;210");
        x.thing(0, 0, 1);
        x.thing(0, 3, 1);
        x.thing(3, 3, 1);
        Check.due("9 one OUT, one moved", x.hour(), 2);
        Check.due("9 OUT already is not again", x.hour(), 1);
        Check.due("9 all DRY", x.hour(), 0);
        Check.due("9 THE TIDE begins anew", x.tide(0), 2);
        Check.due("9 hours", x.count(1), 3);
        Check.due("9 OUT stays", x.about(0, 1), -2);
        x.hour();
        LowWater taken = Check.shore("10000000;0;121");
        taken.thing(4, 0, 9);
        taken.take(0);
        Check.due("9 TAKEN ones do not drift", taken.hour(), 0);
        Check.due("9 none flood", taken.hour(), 0);
        Check.due("9 TAKEN stays", taken.about(0, 1), -1);
    }
}
