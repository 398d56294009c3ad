import java.math.BigInteger;
import java.util.ArrayList;
import java.util.List;

/** Edges of promises 24 to 27. Each test is named by its promise and by the sentence that it would fail without. */
public final class WholeEdgeTest {
    private static final int OUTSIDE = Check.OUTSIDE, STATE = Check.STATE;

    public static void main(String[] args) throws ReflectiveOperationException {
        Edges.run(WholeEdgeTest.class, 24, 27);
    }

    // ---- 24 image

    static void promise24_refusals() {
        for (State state : State.values()) {
            state.does("image", state.hasShore() ? 0 : STATE, LowWater::image);
        }
    }

    static void promise24_hour_0_and_later() {
        LowWater x = Check.shore("00000000;0;12");
        for (int hour = 0; hour < 30; hour++) {
            Check.due("hour", x.image(), hour);
            x.hour();
        }
    }

    static void promise24_one_the_latest() {
        LowWater x = Check.shore("00000000;0;12");
        x.image();
        x.hour();
        x.image();
        x.hour();
        Check.due("the latest", x.restore(), 1);
        Check.due("not the one before", x.restore(), 1);
    }

    static void promise24_without_THINGS_and_MARKS() {
        LowWater x = State.BARE.make();
        long before = x.digest();
        x.image();
        Check.due("image changes nothing that is told", x.digest(), before);
        x.hour();
        x.barge(3);
        x.mark(0, 0);
        x.restore();
        Check.due("as it was", x.digest(), before);
    }

    static void promise24_it_keeps_MARKS_and_their_hour() {
        LowWater x = Check.shore("00000000;0;121");
        x.mark(1, 3);
        x.then(2);
        int fits = x.fits();
        Check.due("THING and HEAVY by EBB", fits, 1 + 4);
        x.image();
        x.mark(0, 3);
        x.then(4);
        Check.due("THING by FLOOD", x.fits(), 1);
        x.restore();
        Check.due("by EBB again", x.fits(), fits);
        Check.due("two", x.count(6), 2);
        x.mark(0, 3);
        x.then(2);
        Check.due("none in another hour", x.fits(), 0);
        x.restore();
        Check.due("the hour again", x.fits(), fits);
    }

    static void promise24_it_keeps_eight_MARKS() {
        LowWater x = State.FULL.make();
        x.image();
        int fits = x.fits();
        x.mark(0, 7);
        x.restore();
        Check.due("eight", x.count(6), 8);
        Check.due("fits", x.fits(), fits);
        LowWater y = Check.shore("00000000;0;1122222");
        y.mark(0, 3);
        for (int cell : new int[] {3, 4, 4, 4, 4, 4, 3}) {
            y.then(cell);
        }
        Check.due("eight fit a THING", y.fits(), 1);
        y.image();
        y.mark(0, 7);
        for (int n = 0; n < 7; n++) {
            y.then(0);
        }
        Check.due("none", y.fits(), 0);
        y.restore();
        Check.due("eight fit a THING again", y.fits(), 1);
    }

    static void promise24_it_keeps_KIND_CELL_and_WORTH_of_eight_THINGS() {
        LowWater x = Check.shore("00000000;0;00");
        for (int n = 0; n < 8; n++) {
            x.thing(n % 5, n, 10 + n);
        }
        x.image();
        for (int n = 0; n < 8; n++) {
            x.take(n);
        }
        x.restore();
        for (int n = 0; n < 8; n++) {
            Check.due("KIND", x.about(n, 0), n % 5);
            Check.due("CELL", x.about(n, 1), n);
            Check.due("WORTH", x.about(n, 2), 10 + n);
        }
    }

    static void promise24_it_keeps_THE_BARGE() {
        LowWater x = State.BARE.make();
        x.image();
        x.barge(7);
        x.restore();
        Check.due("over none", x.barge(0), -1);
        x.image();
        x.barge(7);
        x.restore();
        Check.due("over 0", x.barge(-1), 0);
    }

    static void promise24_a_refused_one_keeps_none() {
        LowWater x = new LowWater();
        x.image();
        Check.write(x, "00000000;0;12");
        x.shore();
        Check.refused("restore", x, STATE, LowWater::restore);
    }

    // ---- 25 restore

    static void promise25_none_was_kept() {
        State.NEW.refuses("restore", STATE, LowWater::restore);
        State.WRITTEN.refuses("restore", STATE, LowWater::restore);
        State.BARE.refuses("restore", STATE, LowWater::restore);
    }

    static void promise25_there_is_another_SHORE() {
        LowWater x = State.BARE.make();
        x.image();
        Check.write(x, "11111111;0;12");
        x.shore();
        Check.refused("another", x, STATE, LowWater::restore);
        Check.write(x, "40213024;16;25130");
        x.shore();
        Check.refused("a third, of the same text", x, STATE, LowWater::restore);
        x.image();
        Check.due("kept anew", x.restore(), 0);
    }

    static void promise25_a_page_that_was_not_read_is_no_other_SHORE() {
        LowWater x = State.BARE.make();
        x.image();
        Check.write(x, "11111111;0;1");
        x.shore();
        Check.due("a refused shore()", x.restore(), 0);
        x.letters('2');
        Check.due("not read yet", x.restore(), 0);
        x.blank();
        Check.due("blank", x.restore(), 0);
    }

    static void promise25_THINGS_came() {
        LowWater x = State.BARE.make();
        x.image();
        x.thing(0, 0, 1);
        Check.refused("the first", x, STATE, LowWater::restore);
        x.image();
        for (int n = 1; n < 8; n++) {
            Check.due("kept with " + n, x.restore(), 0);
            x.thing(0, n, 1);
            Check.refused("one more", x, STATE, LowWater::restore);
            x.image();
        }
        Check.due("kept with 8", x.restore(), 0);
    }

    static void promise25_a_refused_THING_did_not_come() {
        LowWater x = State.FULL.make();
        x.thing(0, 0, 1);
        Check.due("FULL", x.restore(), 0);
        LowWater y = State.BUSY.make();
        y.thing(5, 0, 1);
        y.thing(0, 8, 1);
        y.thing(0, 0, 51);
        Check.due("refused", y.restore(), 2);
    }

    static void promise25_TAKEN_or_OUT_is_not_come() {
        LowWater x = Check.shore("00000009;0;10");
        x.thing(0, 7, 1);
        x.thing(0, 0, 1);
        x.image();
        long before = x.digest();
        x.take(7);
        x.hour();
        Check.due("OUT", x.about(1, 1), -2);
        Check.due("hour", x.restore(), 0);
        Check.due("as it was", x.digest(), before);
        Check.due("not TAKEN", x.about(0, 1), 7);
        Check.due("not OUT", x.about(1, 1), 0);
        Check.due("count", x.count(5), 0);
    }

    static void promise25_again_and_again() {
        LowWater x = State.BUSY.make();
        for (int n = 0; n < 5; n++) {
            Check.due("hour", x.restore(), 2);
            Check.due("MARKS", x.count(6), 2);
            Check.due("THE BARGE", x.barge(7), 0);
            x.hour();
            x.mark(0, 7);
            x.take(0);
        }
    }

    static void promise25_only_what_an_IMAGE_keeps() {
        LowWater x = State.BUSY.make();
        int letters = x.count(7);
        int bests = x.count(9);
        x.restore();
        Check.due("letters", x.count(7), letters);
        Check.due("best()", x.count(9), bests);
        Check.due("SHORES", x.count(8), 1);
        x.best(1, 0, 0);
        x.blank();
        x.restore();
        Check.due("letters, then", x.count(7), 0);
        Check.due("best(), then", x.count(9), bests + 1);
    }

    static void promise25_a_refused_one_changes_nothing() {
        State.NEW.refuses("restore", STATE, LowWater::restore);
        LowWater x = State.BUSY.make();
        x.thing(0, 3, 1);
        Check.refused("THINGS came", x, STATE, LowWater::restore);
    }

    // ---- 26 count

    static void promise26_refusals() {
        for (State state : State.values()) {
            for (int what : Edges.WIDE) {
                state.asks("count " + what, Edges.outOf(what, 0, 9) ? OUTSIDE : 0, o -> o.count(what));
            }
        }
    }

    private static void counts(State state, int... due) {
        LowWater x = state.make();
        for (int what = 0; what < 10; what++) {
            Check.due(state + ", count " + what, x.count(what), due[what]);
        }
    }

    static void promise26_nothing() {
        counts(State.NEW, 0, 0, 0, 0, 0, 0, 0, 0, 0, 0);
    }

    static void promise26_a_page_alone() {
        counts(State.WRITTEN, 0, 0, 0, 0, 0, 0, 0, 16, 0, 0);
    }

    static void promise26_a_SHORE_alone() {
        counts(State.BARE, 0, 0, 2, 5, 0, 0, 0, 0, 1, 0);
    }

    static void promise26_TAKEN_and_OUT_lie_in_no_CELL() {
        counts(State.BUSY, 4, 3, 2, 5, 2, 5, 3, 13, 1, 2);
    }

    static void promise26_all_that_is_full() {
        counts(State.FULL, 8, 1, 8, 12, 7, 46, 8, 32, 1, 40);
    }

    static void promise26_all_TAKEN() {
        LowWater x = Check.shore("00000000;0;00");
        for (int n = 0; n < 8; n++) {
            x.thing(0, n, 50);
            x.take(n);
            Check.due("in CELLS", x.count(4), 0);
            Check.due("worth", x.count(5), 50 * (n + 1));
        }
    }

    static void promise26_how_often_a_SHORE_was_read() {
        LowWater x = new LowWater();
        for (int n = 0; n < 20; n++) {
            Check.due("how often", x.count(8), n);
            Check.write(x, "00000000;0;00");
            x.shore();
            x.shore();
        }
    }

    // ---- 27 digest

    /** The document's words, by numbers without a bound, and then their last 64 bits. */
    private static void digest(String what, LowWater x, String heights, int barge, String page) {
        List<Integer> numbers = new ArrayList<>();
        for (int c = 0; c < 8 && !heights.isEmpty(); c++) {
            for (int told = 0; told < 4; told++) {
                numbers.add(x.cell(c, told));
            }
        }
        heights.chars().forEach(height -> numbers.add(height - '0'));
        if (!heights.isEmpty()) {
            numbers.add(barge);
            numbers.add(x.newStair());
        }
        for (int thing = 0; thing < x.count(0); thing++) {
            for (int told = 0; told < 4; told++) {
                numbers.add(x.about(thing, told));
            }
        }
        if (x.count(6) > 0) {
            numbers.add(x.fits());
        }
        page.chars().forEach(numbers::add);
        for (int told = 0; told < 10; told++) {
            numbers.add(x.count(told));
        }
        BigInteger h = BigInteger.valueOf(691);
        for (int number : numbers) {
            h = h.multiply(BigInteger.valueOf(31)).add(BigInteger.valueOf(number));
        }
        Check.due(what, x.digest(), h.longValue());
        Check.due(what + ", again", x.digest(), h.longValue());
    }

    static void promise27_of_nothing() {
        Check.due("691 times 31 to the 10", new LowWater().digest(), 691L * 819628286980801L);
    }

    static void promise27_it_wraps() {
        // 691 times 31 to the 11 is above 2 to the 63, and below 2 to the 64.
        LowWater x = Check.page("\u0001");
        Check.due("one letter", x.digest() < 0 ? 1 : 0, 1);
        digest("one letter", x, "", -1, "\u0001");
        String page = "";
        LowWater y = new LowWater();
        for (int many = 1; many <= 32; many++) {
            char letter = (char) (127 - many);
            page += letter;
            y.letters(letter);
            digest(many + " letters", y, "", -1, page);
        }
    }

    static void promise27_without_SHORE_only_letters_and_counts() {
        digest("written", State.WRITTEN.make(), "", -1, "43210012;07;0123");
    }

    static void promise27_of_a_SHORE_without_THINGS() {
        digest("bare", State.BARE.make(), "25130", -1, "");
        LowWater barged = State.BARE.make();
        barged.barge(0);
        digest("barge over 0", barged, "25130", 0, "");
        barged.barge(7);
        digest("barge over 7", barged, "25130", 7, "");
    }

    static void promise27_with_MARKS_FITS() {
        LowWater x = State.BARE.make();
        long before = x.digest();
        x.mark(0, 0);
        digest("all fit", x, "25130", -1, "");
        Check.due("as before", x.digest() == before ? 1 : 0, 0);
        x.then(7);
        digest("none fits", x, "25130", -1, "");
    }

    static void promise27_of_THINGS_TAKEN_and_OUT() {
        digest("busy", State.BUSY.make(), "25130", 5, "99999999;3;09");
    }

    static void promise27_of_all_that_is_full() {
        String page = "01234567;01234567;01234567890123";
        digest("full", State.FULL.make(), "012345678901", 7, page);
    }

    static void promise27_of_another_SHORE_with_fewer_heights() {
        LowWater x = State.FULL.make();
        x.blank();
        Check.write(x, "00000000;0;98");
        x.shore();
        digest("two heights", x, "98", -1, "");
    }

    static void promise27_it_changes_nothing() {
        for (State state : State.values()) {
            LowWater x = state.make();
            long before = x.digest();
            int fault = x.fault();
            Check.due(state + ", again", x.digest(), before);
            Check.due(state + ", fault", x.fault(), fault);
            Check.due(state + ", image", x.restore(), state.make().restore());
        }
    }
}
