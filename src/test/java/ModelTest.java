import java.util.Random;

/** All promises: long runs of calls by fixed seeds, each answer held against the Model's. */
public final class ModelTest {
    private static final int RUNS = 1500;
    private static final int CALLS = 512;
    private static final int[] WILD = {-1, -2, -3, 8, 9, 13, 41, 61, 100, Integer.MIN_VALUE, Integer.MAX_VALUE};

    private final Random random;
    private final LowWater x = new LowWater();
    private final Model m = new Model();
    private final int run;
    private int number = 0;

    private ModelTest(int run) {
        this.run = run;
        this.random = new Random(run);
    }

    public static void main(String[] args) {
        for (int run = 0; run < RUNS; run++) {
            new ModelTest(run).calls();
        }
        Check.end();
    }

    private void calls() {
        while (number < CALLS) {
            if (random.nextInt(number == 0 ? 2 : 150) == 0) {
                writeShore();
            } else {
                one();
            }
        }
    }

    private void same(String call, long got, long want) {
        number++;
        Check.due("run " + run + ", call " + number + ", " + call, got, want);
    }

    private int any(int least, int most) {
        if (random.nextInt(25) == 0) {
            return WILD[random.nextInt(WILD.length)];
        }
        return least + random.nextInt(most - least + 1);
    }

    private int place() {
        return any(0, 7);
    }

    private void digits(StringBuilder text, int many, int most) {
        for (int i = 0; i < many; i++) {
            text.append((char) ('0' + random.nextInt(most)));
        }
    }

    private void writeShore() {
        same("blank", x.blank(), m.blank());
        StringBuilder text = new StringBuilder();
        digits(text, 8, 1 + random.nextInt(10));
        text.append(';');
        for (int c : random.ints(0, 8).distinct().limit(1 + random.nextInt(random.nextInt(8) + 1)).toArray()) {
            text.append((char) ('0' + c));
        }
        text.append(';');
        digits(text, 2 + random.nextInt(11), 1 + random.nextInt(10));
        if (random.nextInt(4) == 0) {
            text.setCharAt(random.nextInt(text.length()), "0123456789;a".charAt(random.nextInt(12)));
        }
        if (random.nextInt(8) == 0) {
            text.setLength(random.nextInt(text.length()));
        }
        for (int i = 0; i < text.length(); i += 8) {
            long w = Check.word(text.substring(i, Math.min(i + 8, text.length())));
            same("letters", x.letters(w), m.letters(w));
        }
        same("fault", x.fault(), m.fault());
        same("shore", x.shore(), m.shore());
    }

    private long anyWord() {
        long w = switch (random.nextInt(4)) {
            case 0 -> random.nextLong();
            case 1 -> random.nextLong() & 0x7F7F7F7F7F7F7F7FL;
            default -> Check.word("01234;67".substring(random.nextInt(8)));
        };
        return w >>> 8 * random.nextInt(8);
    }

    private void one() {
        switch (random.nextInt(12)) {
            case 0 -> shoreCall();
            case 1, 2 -> thingCall();
            case 3, 4 -> wouldBeCall();
            case 5 -> markCall();
            case 6, 7 -> same("hour", x.hour(), m.hour());
            case 8 -> {
                int cell = place();
                same("take " + cell, x.take(cell), m.take(cell));
            }
            case 9 -> wholeCall();
            case 10 -> {
                int cell = any(-1, 7);
                same("barge " + cell, x.barge(cell), m.barge(cell));
            }
            default -> same("digest", x.digest(), m.digest());
        }
    }

    private void shoreCall() {
        int a = place();
        int b = any(0, 3);
        switch (random.nextInt(6)) {
            case 0 -> {
                long w = anyWord();
                same("letters " + w, x.letters(w), m.letters(w));
            }
            case 1 -> same("fault", x.fault(), m.fault());
            case 2 -> same("shore", x.shore(), m.shore());
            case 3 -> same("blank", x.blank(), m.blank());
            case 4 -> same("cell " + a + " " + b, x.cell(a, b), m.cell(a, b));
            default -> {
                int hours = any(0, 99);
                same("tide " + hours, x.tide(hours), m.tide(hours));
            }
        }
    }

    private void thingCall() {
        int a = place();
        int b = any(0, 4);
        switch (random.nextInt(6)) {
            case 0, 1 -> {
                int worth = any(1, 50);
                same("thing " + b + " " + a + " " + worth, x.thing(b, a, worth), m.thing(b, a, worth));
            }
            case 2, 3 -> same("about " + a + " " + b, x.about(a, b), m.about(a, b));
            case 4 -> same("as " + a + " " + b, x.as(a, b), m.as(a, b));
            default -> same("share " + a, x.share(a), m.share(a));
        }
    }

    private void wouldBeCall() {
        int a = place();
        int b = any(0, 4);
        switch (random.nextInt(6)) {
            case 0 -> {
                // The Model's way through all ways is dear.
                int hours = random.nextInt(3) == 0 ? any(0, 7) : any(0, 4);
                int what = any(0, 1);
                same("best " + a + " " + hours + " " + what, x.best(a, hours, what), m.best(a, hours, what));
            }
            case 1, 2 -> {
                int hours = any(1, random.nextBoolean() ? 3 : 12);
                same("whence " + b + " " + a + " " + hours, x.whence(b, a, hours), m.whence(b, a, hours));
            }
            case 3 -> {
                int cell = any(-1, 7);
                same("uncovered " + cell, x.uncovered(cell), m.uncovered(cell));
            }
            case 4 -> {
                int height = any(0, 9);
                same("bell " + height, x.bell(height), m.bell(height));
            }
            default -> same("newStair", x.newStair(), m.newStair());
        }
    }

    private void markCall() {
        int a = place();
        switch (random.nextInt(8)) {
            case 0 -> {
                int hour = any(0, 99);
                same("mark " + hour + " " + a, x.mark(hour, a), m.mark(hour, a));
            }
            case 1, 2 -> same("then " + a, x.then(a), m.then(a));
            case 3 -> drifted();
            case 4 -> same("then -2", x.then(-2), m.then(-2));
            case 5 -> same("fits", x.fits(), m.fits());
            default -> {
                int hours = any(1, 60);
                int seed = random.nextInt(3) == 0 ? any(0, 9) : random.nextInt();
                int what = any(0, 3);
                same("days " + hours + " " + seed + " " + what, x.days(hours, seed, what), m.days(hours, seed, what));
            }
        }
    }

    /** Marks where the first THING really goes, so that some KIND fits. */
    private void drifted() {
        int hour = Math.min(99, Math.max(0, m.count(1)));
        int at = Math.max(0, m.about(0, 1));
        same("mark " + hour + " " + at, x.mark(hour, at), m.mark(hour, at));
        for (int i = random.nextInt(5); i > 0; i--) {
            same("hour", x.hour(), m.hour());
            int to = m.about(0, 1);
            same("then " + to, x.then(to), m.then(to));
            same("fits", x.fits(), m.fits());
        }
    }

    private void wholeCall() {
        int what = any(0, 9);
        switch (random.nextInt(6)) {
            case 0 -> same("image", x.image(), m.image());
            case 1, 2 -> same("restore", x.restore(), m.restore());
            default -> same("count " + what, x.count(what), m.count(what));
        }
    }
}
