/** What all tests use: rows that compare an answer with the one that is due, and shores by their texts. */
final class Check {
    static final int UNKNOWN = -101, OUTSIDE = -102, STATE = -103, FULL = -104;

    private static int rows = 0;
    private static int wrong = 0;

    /** The name of the test that runs, if it has one. */
    private static String test = "";

    private Check() {
    }

    static void begin(String name) {
        test = name + ", ";
    }

    static void due(String what, long got, long want) {
        rows++;
        if (got != want) {
            wrong++;
            System.out.println(test + what + ": answered " + got + ", due is " + want);
        }
    }

    static void end() {
        System.out.println(rows + " rows, " + wrong + " wrong");
        if (wrong != 0 || rows == 0) {
            System.exit(1);
        }
    }

    /** Up to eight letters as the bytes of a word, the first one lowest. */
    static long word(String text) {
        long w = 0;
        for (int i = 0; i < text.length(); i++) {
            w |= (long) text.charAt(i) << 8 * i;
        }
        return w;
    }

    static void write(LowWater x, String text) {
        for (int i = 0; i < text.length(); i += 8) {
            x.letters(word(text.substring(i, Math.min(i + 8, text.length()))));
        }
    }

    static LowWater page(String text) {
        LowWater x = new LowWater();
        write(x, text);
        return x;
    }

    static LowWater shore(String text) {
        LowWater x = page(text);
        if (x.shore() < 0) {
            due("shore " + text, -1, 0);
        }
        return x;
    }

    /** A call that must be refused, and change nothing that digest() tells. */
    interface Call {
        long on(LowWater x);
    }

    static void refused(String what, LowWater x, int want, Call call) {
        long before = x.digest();
        due(what, call.on(x), want);
        due(what + " changes nothing", x.digest(), before);
    }
}
