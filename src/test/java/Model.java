import java.util.ArrayList;
import java.util.List;
import java.util.regex.Matcher;
import java.util.regex.Pattern;

/**
 * The document written once more, as plainly as it goes and with the library: ways tried one by one, THINGS
 * really TAKEN on the way, no bits but in answers. ModelTest holds LowWater against it.
 */
final class Model implements Cloneable {
    static final int UNKNOWN = -101, OUTSIDE = -102, STATE = -103, FULL = -104, NONE = -1;
    private static final Pattern SHORE = Pattern.compile("([0-9]{8});([0-7]{1,8});([0-9]{2,12})");

    /** kind, place, worth. */
    record Thing(int kind, int place, int worth) {
    }

    private String page = "";
    private String levels = null;
    private String stairs = "";
    private String heights = "";
    private int barge = NONE;
    private int hour = 0;
    private List<Thing> things = new ArrayList<>();
    private int markHour = 0;
    private List<Integer> marks = new ArrayList<>();
    private int shores = 0;
    private int bests = 0;
    private Model image = null;

    private Model copy() {
        try {
            Model m = (Model) clone();
            m.things = new ArrayList<>(things);
            m.marks = new ArrayList<>(marks);
            return m;
        } catch (CloneNotSupportedException e) {
            throw new IllegalStateException(e);
        }
    }

    private static boolean outOf(int x, int least, int most) {
        return x < least || x > most;
    }

    private static Matcher shoreOf(String text) {
        Matcher m = SHORE.matcher(text);
        return m.matches() && m.group(2).chars().distinct().count() == m.group(2).length() ? m : null;
    }

    private static boolean beginsShore(String text) {
        for (int stair = 0; stair < 8; stair++) {
            String whole = "00000000;" + stair + ";00";
            for (int i = 0; i <= whole.length(); i++) {
                if (shoreOf(text + whole.substring(i)) != null) {
                    return true;
                }
            }
        }
        return false;
    }

    int letters(long w) {
        StringBuilder told = new StringBuilder();
        boolean ended = false;
        for (long rest = w, i = 0; i < 8; i++, rest >>>= 8) {
            int code = (int) (rest & 255);
            if (code > 126 || ended && code > 0) {
                return OUTSIDE;
            }
            ended |= code == 0;
            if (code > 0) {
                told.append((char) code);
            }
        }
        if (page.length() + told.length() > 32) {
            return FULL;
        }
        page += told;
        return page.length();
    }

    int blank() {
        int had = page.length();
        page = "";
        return had;
    }

    int fault() {
        int i = 0;
        while (i < page.length() && beginsShore(page.substring(0, i + 1))) {
            i++;
        }
        return i;
    }

    int shore() {
        Matcher m = shoreOf(page);
        if (m == null) {
            return STATE;
        }
        levels = m.group(1);
        stairs = m.group(2);
        heights = m.group(3);
        page = "";
        barge = NONE;
        hour = 0;
        things.clear();
        marks.clear();
        image = null;
        shores++;
        return heights.length();
    }

    private int height(int at) {
        return heights.charAt(at % heights.length()) - '0';
    }

    private boolean dry(int cell, int at) {
        int level = levels.charAt(cell) - '0';
        if (barge != NONE) {
            level -= new int[] {2, 1, 0, 0, 0, 0, 0, 0}[Math.abs(barge - cell)];
        }
        return height(at) <= Math.max(level, 0);
    }

    private boolean stair(int cell) {
        return stairs.indexOf('0' + cell) >= 0;
    }

    int cell(int cell, int what) {
        if (outOf(cell, 0, 7)) {
            return UNKNOWN;
        }
        if (outOf(what, 0, 3)) {
            return OUTSIDE;
        }
        if (levels == null) {
            return STATE;
        }
        return switch (what) {
            case 0 -> levels.charAt(cell) - '0';
            case 1 -> stair(cell) ? 1 : 0;
            case 2 -> dry(cell, hour) ? 1 : 0;
            default -> (int) things.stream().filter(t -> t.place == cell).count();
        };
    }

    int tide(int hours) {
        return outOf(hours, 0, 99) ? OUTSIDE : levels == null ? STATE : height(hour + hours);
    }

    int barge(int cell) {
        if (outOf(cell, -1, 7)) {
            return UNKNOWN;
        }
        if (levels == null) {
            return STATE;
        }
        int before = barge;
        barge = cell;
        return before;
    }

    private int drift(int kind, int place, int at) {
        if (place < 0 || dry(place, at) || height(at) == height(at + 1)) {
            return place;
        }
        boolean flood = height(at + 1) > height(at);
        int steps = switch (kind) {
            case 0 -> 1;
            case 1 -> 2;
            case 2 -> flood ? 0 : 1;
            case 3 -> 0;
            default -> 3;
        };
        int p = place;
        while (steps > 0) {
            steps--;
            p += flood ? 1 : -1;
            if (p < 0) {
                return -2;
            }
            if (p > 7) {
                return 7;
            }
            if (dry(p, at + 1)) {
                return p;
            }
        }
        return p;
    }

    int hour() {
        if (levels == null) {
            return STATE;
        }
        int moved = 0;
        for (int i = 0; i < things.size(); i++) {
            Thing t = things.get(i);
            int to = drift(t.kind, t.place, hour);
            moved += to == t.place ? 0 : 1;
            things.set(i, new Thing(t.kind, to, t.worth));
        }
        hour++;
        return moved;
    }

    int thing(int kind, int cell, int worth) {
        if (outOf(cell, 0, 7)) {
            return UNKNOWN;
        }
        if (outOf(kind, 0, 4) || outOf(worth, 1, 50)) {
            return OUTSIDE;
        }
        if (levels == null) {
            return STATE;
        }
        if (things.size() == 8) {
            return FULL;
        }
        things.add(new Thing(kind, cell, worth));
        image = null;
        return things.size() - 1;
    }

    private int nearest(int place, String where) {
        if (place < 0) {
            return NONE;
        }
        for (int off = 0; off < 8; off++) {
            if (where.indexOf('0' + place - off) >= 0) {
                return place - off;
            }
            if (where.indexOf('0' + place + off) >= 0) {
                return place + off;
            }
        }
        return NONE;
    }

    int about(int thing, int what) {
        if (outOf(thing, 0, things.size() - 1)) {
            return UNKNOWN;
        }
        Thing t = things.get(thing);
        return switch (what) {
            case 0 -> t.kind;
            case 1 -> t.place;
            case 2 -> t.worth;
            case 3 -> nearest(t.place, stairs);
            default -> OUTSIDE;
        };
    }

    int as(int thing, int kind) {
        if (outOf(thing, 0, things.size() - 1)) {
            return UNKNOWN;
        }
        if (outOf(kind, 0, 4)) {
            return OUTSIDE;
        }
        String[] all = {"0", "01", "02", "03", "014"};
        return all[things.get(thing).kind].indexOf('0' + kind) >= 0 ? thing : NONE;
    }

    private int takeThere(int cell) {
        int worth = 0;
        for (int i = 0; i < things.size(); i++) {
            Thing t = things.get(i);
            if (t.place == cell) {
                worth += t.worth;
                things.set(i, new Thing(t.kind, -1, t.worth));
            }
        }
        return worth;
    }

    int take(int cell) {
        if (outOf(cell, 0, 7)) {
            return UNKNOWN;
        }
        return levels == null || !dry(cell, hour) ? STATE : takeThere(cell);
    }

    private int belonging(int cell, String where) {
        return things.stream().filter(t -> nearest(t.place, where) == cell).mapToInt(Thing::worth).sum();
    }

    int share(int cell) {
        return outOf(cell, 0, 7) || !stair(cell) ? UNKNOWN : belonging(cell, stairs);
    }

    /** What a child brings home on a way told by its digits (0 down, 1 stay, 2 up); NONE: it can't. */
    private int brought(int cell, int hours, int way) {
        Model m = copy();
        int at = cell;
        int worth = 0;
        for (int i = 0; ; i++) {
            if (outOf(at, 0, 7) || !m.dry(at, m.hour)) {
                return NONE;
            }
            worth += m.takeThere(at);
            if (i == hours) {
                return stair(at) ? worth : NONE;
            }
            at += way / (int) Math.pow(3, hours - 1 - i) % 3 - 1;
            m.hour();
        }
    }

    int best(int cell, int hours, int what) {
        if (outOf(cell, 0, 7)) {
            return UNKNOWN;
        }
        if (outOf(hours, 0, 7) || outOf(what, 0, 1)) {
            return OUTSIDE;
        }
        if (levels == null || bests >= 40) {
            return STATE;
        }
        bests++;
        int most = NONE;
        int first = NONE;
        int ways = (int) Math.pow(3, hours);
        for (int way = 0; stair(cell) && way < ways; way++) {
            int worth = brought(cell, hours, way);
            if (worth > most) {
                most = worth;
                first = hours == 0 ? cell : cell + way / (ways / 3) - 1;
            }
        }
        return what == 0 ? most : first;
    }

    int whence(int kind, int cell, int hours) {
        if (outOf(kind, 0, 4)) {
            return OUTSIDE;
        }
        if (outOf(cell, 0, 7)) {
            return UNKNOWN;
        }
        if (outOf(hours, 1, 12)) {
            return OUTSIDE;
        }
        if (levels == null || hour < hours) {
            return STATE;
        }
        int bits = 0;
        for (int c = 0; c < 8; c++) {
            Model m = copy();
            m.things.clear();
            m.things.add(new Thing(kind, c, 1));
            m.hour = hour - hours;
            while (m.hour < hour) {
                m.hour();
            }
            bits += m.things.get(0).place == cell ? 1 << c : 0;
        }
        return bits;
    }

    int uncovered(int cell) {
        if (outOf(cell, -1, 7)) {
            return UNKNOWN;
        }
        if (levels == null) {
            return STATE;
        }
        Model m = copy();
        m.barge(cell);
        int bits = 0;
        for (int c = 0; c < 8; c++) {
            bits += m.cell(c, 2) > cell(c, 2) ? 1 << c : 0;
        }
        return bits;
    }

    int bell(int height) {
        if (outOf(height, 0, 9)) {
            return OUTSIDE;
        }
        if (levels == null) {
            return STATE;
        }
        for (int h = 0; h < 100; h++) {
            if (tide(h) >= height) {
                return h;
            }
        }
        return NONE;
    }

    int newStair() {
        if (levels == null) {
            return STATE;
        }
        int most = NONE;
        int where = NONE;
        for (int c = 0; c < 8; c++) {
            int worth = belonging(c, stairs + c);
            if (!stair(c) && worth > most) {
                most = worth;
                where = c;
            }
        }
        return where;
    }

    int mark(int from, int cell) {
        if (outOf(from, 0, 99)) {
            return OUTSIDE;
        }
        if (outOf(cell, 0, 7)) {
            return UNKNOWN;
        }
        if (levels == null) {
            return STATE;
        }
        int before = marks.size();
        marks.clear();
        marks.add(cell);
        markHour = from;
        return before;
    }

    int then(int cell) {
        if (marks.isEmpty()) {
            return STATE;
        }
        if (outOf(cell, 0, 7) && cell != -2) {
            return UNKNOWN;
        }
        if (marks.size() == 8) {
            return FULL;
        }
        marks.add(cell);
        return marks.size();
    }

    int fits() {
        if (marks.isEmpty()) {
            return STATE;
        }
        int bits = 0;
        for (int kind = 0; kind < 5; kind++) {
            List<Integer> way = new ArrayList<>();
            int place = marks.get(0);
            for (int i = 0; i < marks.size(); i++) {
                way.add(place);
                place = drift(kind, place, markHour + i);
            }
            bits += way.equals(marks) ? 1 << kind : 0;
        }
        return bits;
    }

    int days(int hours, int seed, int what) {
        if (outOf(hours, 1, 60) || seed < 0 || outOf(what, 0, 3)) {
            return OUTSIDE;
        }
        if (levels == null) {
            return STATE;
        }
        Model m = copy();
        long[] s = {seed};
        for (int h = 0; h < hours; h++) {
            if (!m.things.isEmpty() && draw(s, 4) == 0) {
                int number = draw(s, m.things.size());
                Thing t = m.things.get(number);
                if (t.place >= 0 && m.dry(t.place, m.hour)) {
                    m.things.set(number, new Thing(t.kind, -1, t.worth));
                }
            }
            m.hour();
        }
        return switch (what) {
            case 0 -> m.count(5);
            case 1 -> (int) m.things.stream().filter(t -> t.place == -2).count();
            case 2 -> m.things.stream().mapToInt(t -> Math.max(0, t.place)).sum();
            default -> (int) s[0];
        };
    }

    private static int draw(long[] s, int of) {
        s[0] = (1103515245L * s[0] + 12345L) & 0x7FFFFFFFL;
        return (int) ((s[0] >> 16) % of);
    }

    int image() {
        if (levels == null) {
            return STATE;
        }
        image = null;
        image = copy();
        return hour;
    }

    int restore() {
        if (image == null) {
            return STATE;
        }
        things = new ArrayList<>(image.things);
        marks = new ArrayList<>(image.marks);
        markHour = image.markHour;
        barge = image.barge;
        hour = image.hour;
        return hour;
    }

    int count(int what) {
        return switch (what) {
            case 0 -> things.size();
            case 1 -> hour;
            case 2 -> stairs.length();
            case 3 -> heights.length();
            case 4 -> (int) things.stream().filter(t -> t.place >= 0).count();
            case 5 -> things.stream().filter(t -> t.place == -1).mapToInt(Thing::worth).sum();
            case 6 -> marks.size();
            case 7 -> page.length();
            case 8 -> shores;
            case 9 -> bests;
            default -> OUTSIDE;
        };
    }

    long digest() {
        List<Long> all = new ArrayList<>();
        for (int c = 0; c < 8 && levels != null; c++) {
            for (int what = 0; what < 4; what++) {
                all.add((long) cell(c, what));
            }
        }
        if (levels != null) {
            heights.chars().forEach(h -> all.add((long) h - '0'));
            all.add((long) barge);
            all.add((long) newStair());
        }
        for (int i = 0; i < things.size(); i++) {
            for (int what = 0; what < 4; what++) {
                all.add((long) about(i, what));
            }
        }
        if (!marks.isEmpty()) {
            all.add((long) fits());
        }
        page.chars().forEach(c -> all.add((long) c));
        for (int what = 0; what < 10; what++) {
            all.add((long) count(what));
        }
        long h = 691;
        for (long n : all) {
            h = 31 * h + n;
        }
        return h;
    }
}
