import java.util.ArrayList;
import java.util.List;

/** States in which each call's edges are tried. An object is made anew each time, so that one call spoils nothing. */
enum State {
    /** Nothing was called. */
    NEW(0),
    /** THE PAGE holds a SHORE that was not read. */
    WRITTEN(0),
    /** A SHORE, and nothing else. */
    BARE(0),
    /** THINGS in CELLS, TAKEN, OUT; THE BARGE, MARKS; an IMAGE of another hour; a SHORE on THE PAGE. */
    BUSY(4),
    /** All that has a bound is full: letters, STAIRS, heights, THINGS, MARKS, best(). */
    FULL(8);

    final int things;
    private long[] lifeOfOne = null;

    State(int things) {
        this.things = things;
    }

    boolean hasShore() {
        return this != NEW && this != WRITTEN;
    }

    boolean hasMarks() {
        return this == BUSY || this == FULL;
    }

    LowWater make() {
        return switch (this) {
            case NEW -> new LowWater();
            case WRITTEN -> Check.page("43210012;07;0123");
            case BARE -> Check.shore("40213024;16;25130");
            case BUSY -> busy();
            case FULL -> full();
        };
    }

    private static LowWater busy() {
        LowWater x = BARE.make();
        x.thing(4, 1, 30);
        x.thing(1, 2, 5);
        x.thing(2, 1, 7);
        x.take(2);
        x.barge(0);
        x.hour();
        x.thing(0, 0, 9);
        x.hour();
        x.mark(2, 3);
        x.then(4);
        x.image();
        x.hour();
        x.barge(5);
        x.mark(98, 6);
        x.then(6);
        x.then(5);
        x.best(6, 1, 0);
        x.best(3, 1, 0);
        Check.write(x, "99999999;3;09");
        return x;
    }

    private static LowWater full() {
        LowWater x = Check.shore("30303030;01234567;012345678901");
        for (int n = 0; n < 8; n++) {
            x.thing(n % 5, n, 50 - n);
        }
        x.take(4);
        x.image();
        x.hour();
        x.barge(7);
        x.mark(0, 1);
        for (int n = 1; n < 8; n++) {
            x.then(n);
        }
        for (int n = 0; n < 40; n++) {
            x.best(0, 0, 0);
        }
        Check.write(x, "01234567;01234567;01234567890123");
        return x;
    }

    /** A call that must answer so, and change nothing at all: another object, made alike, goes on alike. */
    void refuses(String what, int due, Check.Call call) {
        LowWater x = make();
        Check.due(this + ", " + what, call.on(x), due);
        unchanged(what, x);
    }

    /** A call that must not be refused, and must change nothing. */
    void answers(String what, Check.Call call) {
        LowWater x = make();
        Check.due(this + ", " + what + " is refused", call.on(x) <= -101 ? 1 : 0, 0);
        unchanged(what, x);
    }

    /** Refused if due is not 0; what it answers else is not looked at, but that it changes nothing. */
    void asks(String what, int due, Check.Call call) {
        if (due == 0) {
            answers(what, call);
        } else {
            refuses(what, due, call);
        }
    }

    /** Refused if due is not 0; else it may change what it is there for. */
    void does(String what, int due, Check.Call call) {
        if (due == 0) {
            Check.due(this + ", " + what + " is refused", call.on(make()) <= -101 ? 1 : 0, 0);
        } else {
            refuses(what, due, call);
        }
    }

    private void unchanged(String what, LowWater x) {
        if (lifeOfOne == null) {
            lifeOfOne = life(make());
        }
        long[] life = life(x);
        int same = 0;
        while (same < life.length && life[same] == lifeOfOne[same]) {
            same++;
        }
        Check.due(this + ", " + what + ", goes on as if it had not been called", same, life.length);
    }

    /** What an object answers when it goes on: all that it may hold inside comes out. */
    private static long[] life(LowWater x) {
        List<Long> said = new ArrayList<>();
        tell(said, x);
        said.add((long) x.then(4));
        said.add((long) x.best(6, 3, 0));
        said.add((long) x.restore());
        tell(said, x);
        said.add((long) x.hour());
        said.add((long) x.barge(1));
        said.add((long) x.image());
        said.add((long) x.hour());
        said.add((long) x.take(2));
        said.add((long) x.restore());
        tell(said, x);
        said.add((long) x.thing(1, 2, 3));
        said.add((long) x.restore());
        said.add((long) x.shore());
        tell(said, x);
        said.add((long) x.blank());
        Check.write(x, "21012101;4;120");
        said.add((long) x.shore());
        said.add((long) x.thing(4, 3, 8));
        said.add((long) x.hour());
        said.add((long) x.restore());
        tell(said, x);
        return said.stream().mapToLong(n -> n).toArray();
    }

    private static void tell(List<Long> said, LowWater x) {
        said.add(x.digest());
        said.add((long) x.fault());
        said.add((long) x.fits());
        said.add((long) x.tide(0));
        said.add((long) x.uncovered(-1));
        said.add((long) x.whence(1, 3, 2));
        said.add((long) x.days(20, 5, 3));
        said.add((long) x.days(20, 5, 2));
    }
}
