/** Edges of promises 1 to 9. Each test is named by its promise and by the sentence that it would fail without. */
public final class ShoreEdgeTest {
    private static final int UNKNOWN = Check.UNKNOWN, OUTSIDE = Check.OUTSIDE, STATE = Check.STATE, FULL = Check.FULL;
    private static final String LONGEST = "90909090;76543210;909876543210";

    public static void main(String[] args) throws ReflectiveOperationException {
        Edges.run(ShoreEdgeTest.class, 1, 9);
    }

    // ---- 1 a new object

    static void promise01_no_SHORE_is_STATE() {
        State.NEW.refuses("shore", STATE, LowWater::shore);
        State.NEW.refuses("cell", STATE, o -> o.cell(0, 0));
        State.NEW.refuses("tide", STATE, o -> o.tide(0));
        State.NEW.refuses("barge", STATE, o -> o.barge(0));
        State.NEW.refuses("barge over none", STATE, o -> o.barge(-1));
        State.NEW.refuses("hour", STATE, LowWater::hour);
        State.NEW.refuses("thing", STATE, o -> o.thing(0, 0, 1));
        State.NEW.refuses("take", STATE, o -> o.take(0));
        State.NEW.refuses("best", STATE, o -> o.best(0, 0, 0));
        State.NEW.refuses("whence", STATE, o -> o.whence(0, 0, 1));
        State.NEW.refuses("uncovered", STATE, o -> o.uncovered(0));
        State.NEW.refuses("uncovered by none", STATE, o -> o.uncovered(-1));
        State.NEW.refuses("bell", STATE, o -> o.bell(0));
        State.NEW.refuses("newStair", STATE, LowWater::newStair);
        State.NEW.refuses("mark", STATE, o -> o.mark(0, 0));
        State.NEW.refuses("days", STATE, o -> o.days(1, 0, 0));
        State.NEW.refuses("image", STATE, LowWater::image);
    }

    static void promise01_no_THINGS() {
        State.NEW.refuses("about", UNKNOWN, o -> o.about(0, 0));
        State.NEW.refuses("as", UNKNOWN, o -> o.as(0, 0));
    }

    static void promise01_no_STAIRS() {
        for (int c = 0; c < 8; c++) {
            int cell = c;
            State.NEW.refuses("share " + c, UNKNOWN, o -> o.share(cell));
        }
    }

    static void promise01_no_MARKS() {
        State.NEW.refuses("then", STATE, o -> o.then(0));
        State.NEW.refuses("fits", STATE, LowWater::fits);
    }

    static void promise01_no_IMAGE() {
        State.NEW.refuses("restore", STATE, LowWater::restore);
    }

    static void promise01_THE_PAGE_is_empty() {
        Check.due("fault", new LowWater().fault(), 0);
        Check.due("blank", new LowWater().blank(), 0);
        Check.due("letters", new LowWater().letters(0), 0);
    }

    static void promise01_all_counts_are_0() {
        for (int what = 0; what < 10; what++) {
            Check.due("count " + what, new LowWater().count(what), 0);
        }
    }

    static void promise01_another_object_makes_no_SHORE_here() {
        LowWater old = new LowWater();
        State.FULL.make();
        LowWater young = new LowWater();
        Check.due("older", old.digest(), young.digest());
        Check.due("older, cell", old.cell(0, 0), STATE);
        Check.due("younger, cell", young.cell(0, 0), STATE);
        Check.due("younger, best", young.best(0, 0, 0), STATE);
    }

    // ---- 2 letters

    private static LowWater pageOf(int letters) {
        return Check.page("0".repeat(letters));
    }

    static void promise02_a_word_of_0_adds_none() {
        Check.due("to none", new LowWater().letters(0), 0);
        Check.due("to 5", pageOf(5).letters(0), 5);
        State.BUSY.answers("letters(0)", o -> o.letters(0));
    }

    static void promise02_up_to_eight() {
        for (int many = 1; many <= 8; many++) {
            Check.due(many + " letters", new LowWater().letters(Check.word("01234567".substring(0, many))), many);
            Check.due(many + " behind three", pageOf(3).letters(Check.word("a".repeat(many))), 3 + many);
        }
    }

    static void promise02_the_lowest_byte_first() {
        Check.due("01234567", new LowWater().letters(0x3736353433323130L), 8);
        Check.due("0;", faultOf("0;"), 1);
        Check.due(";0", faultOf(";0"), 0);
        Check.due("eighth letter", faultOf("0123456;"), 7);
    }

    static void promise02_they_come_behind_THE_PAGE() {
        LowWater x = Check.page("01234567");
        x.letters(';');
        Check.due("fault", x.fault(), 9);
        Check.due("digest", x.digest() == Check.page(";01234567").digest() ? 1 : 0, 0);
    }

    static void promise02_a_byte_of_1_is_a_letter() {
        for (int place = 0; place < 8; place++) {
            long w = Check.word("aaaaaaaa".substring(0, place)) | 1L << 8 * place;
            Check.due("in place " + place, new LowWater().letters(w), place + 1);
        }
    }

    static void promise02_a_byte_of_126_is_a_letter() {
        for (int place = 0; place < 8; place++) {
            long w = Check.word("aaaaaaaa".substring(0, place)) | 126L << 8 * place;
            Check.due("in place " + place, new LowWater().letters(w), place + 1);
        }
    }

    static void promise02_a_byte_above_126_is_OUTSIDE() {
        for (int place = 0; place < 8; place++) {
            for (long code = 127; code <= 255; code++) {
                long w = Check.word("aaaaaaaa".substring(0, place)) | code << 8 * place;
                Check.due(code + " in place " + place, new LowWater().letters(w), OUTSIDE);
            }
        }
        Check.due("-1", new LowWater().letters(-1), OUTSIDE);
        Check.due("least", new LowWater().letters(Long.MIN_VALUE), OUTSIDE);
        Check.due("greatest", new LowWater().letters(Long.MAX_VALUE), OUTSIDE);
    }

    static void promise02_a_byte_above_126_ahead_of_letters_is_OUTSIDE() {
        for (int place = 0; place < 8; place++) {
            long w = Check.word("aaaaaaaa") & ~(255L << 8 * place) | 127L << 8 * place;
            Check.due("place " + place, new LowWater().letters(w), OUTSIDE);
        }
    }

    static void promise02_a_byte_behind_a_0_is_OUTSIDE() {
        for (int zero = 0; zero < 7; zero++) {
            for (int behind = zero + 1; behind < 8; behind++) {
                long letters = Check.word("aaaaaaaa".substring(0, zero));
                Check.due(zero + ", " + behind, new LowWater().letters(letters | 1L << 8 * behind), OUTSIDE);
                Check.due(zero + ", 126 in " + behind, new LowWater().letters(letters | 126L << 8 * behind), OUTSIDE);
            }
        }
    }

    static void promise02_32_letters_are_not_FULL() {
        for (int had = 24; had < 32; had++) {
            LowWater x = pageOf(had);
            Check.due("behind " + had, x.letters(Check.word("00000000".substring(0, 32 - had))), 32);
            Check.due("none behind 32", x.letters(0), 32);
        }
    }

    static void promise02_33_letters_are_FULL() {
        for (int had = 25; had <= 32; had++) {
            LowWater x = pageOf(had);
            Check.due("behind " + had, x.letters(Check.word("00000000".substring(0, 33 - had))), FULL);
            Check.due("eight behind " + had, x.letters(Check.word("00000000")), FULL);
            Check.due("as many as before", x.count(7), had);
        }
    }

    static void promise02_OUTSIDE_ahead_of_FULL() {
        State.FULL.refuses("above 126", OUTSIDE, o -> o.letters(127));
        State.FULL.refuses("the last above 126", OUTSIDE, o -> o.letters(0x7F61616161616161L));
        State.FULL.refuses("behind a 0", OUTSIDE, o -> o.letters(0x6100L));
        State.FULL.refuses("behind a letter and a 0", OUTSIDE, o -> o.letters(0x610061L));
    }

    static void promise02_refused_letters_change_nothing() {
        for (State state : State.values()) {
            state.refuses("above 126", OUTSIDE, o -> o.letters(0x7F3030L));
            state.refuses("behind a 0", OUTSIDE, o -> o.letters(0x30003030L));
        }
        State.FULL.refuses("33", FULL, o -> o.letters('0'));
        LowWater x = pageOf(31);
        Check.refused("not even the first of two", x, FULL, o -> o.letters(Check.word("12")));
        Check.due("one more", x.letters('1'), 32);
    }

    // ---- 3 blank

    static void promise03_an_empty_page_had_0() {
        LowWater x = new LowWater();
        Check.due("at first", x.blank(), 0);
        x.letters('0');
        Check.due("one", x.blank(), 1);
        Check.due("again", x.blank(), 0);
    }

    static void promise03_a_full_page_had_32() {
        LowWater x = State.FULL.make();
        Check.due("32", x.blank(), 32);
        Check.due("count", x.count(7), 0);
        Check.due("fault", x.fault(), 0);
    }

    static void promise03_32_letters_fit_again() {
        LowWater x = pageOf(32);
        x.blank();
        for (int many = 8; many <= 32; many += 8) {
            Check.due("to " + many, x.letters(Check.word("11111111")), many);
        }
        Check.due("one more", x.letters('1'), FULL);
    }

    static void promise03_only_THE_PAGE_goes() {
        LowWater x = Check.shore("40213024;16;25130");
        long before = x.digest();
        Check.write(x, "abc");
        x.blank();
        Check.due("digest", x.digest(), before);
    }

    // ---- 4 fault

    private static int faultOf(String text) {
        return Check.page(text).fault();
    }

    static void promise04_no_letters() {
        Check.due("fault", faultOf(""), 0);
    }

    static void promise04_none_is_amiss() {
        for (int many = 0; many <= LONGEST.length(); many++) {
            Check.due("the first " + many, faultOf(LONGEST.substring(0, many)), many);
        }
        Check.due("shortest", faultOf("00000000;0;00"), 13);
    }

    static void promise04_a_LEVEL_is_0_to_9() {
        for (int place = 0; place < 8; place++) {
            String ahead = "00000000".substring(0, place);
            for (char code = 1; code <= 126; code++) {
                boolean good = code >= '0' && code <= '9';
                Check.due(place + ", code " + (int) code, faultOf(ahead + code), place + (good ? 1 : 0));
            }
        }
    }

    static void promise04_behind_eight_LEVELS_a_semicolon() {
        for (char code = 1; code <= 126; code++) {
            Check.due("code " + (int) code, faultOf("99999999" + code), code == ';' ? 9 : 8);
        }
    }

    static void promise04_one_STAIR_at_least() {
        Check.due("none", faultOf("00000000;;"), 9);
        Check.due("none, and heights", faultOf("00000000;;00"), 9);
        Check.due("one", faultOf("00000000;0;"), 11);
    }

    static void promise04_a_STAIR_is_0_to_7() {
        for (char code = 1; code <= 126; code++) {
            boolean good = code >= '0' && code <= '7';
            Check.due("code " + (int) code, faultOf("00000000;" + code), good ? 10 : 9);
        }
    }

    static void promise04_STAIRS_are_unlike() {
        for (int first = 0; first < 7; first++) {
            String ahead = "00000000;" + "01234567".substring(0, first + 1);
            for (int again = 0; again <= first; again++) {
                Check.due("a second " + again, faultOf(ahead + again), 10 + first);
            }
            for (int other = first + 1; other < 8; other++) {
                Check.due("a first " + other, faultOf(ahead + other), 11 + first);
            }
        }
    }

    static void promise04_eight_STAIRS_at_most() {
        for (char code = 1; code <= 126; code++) {
            Check.due("code " + (int) code, faultOf("00000000;01234567" + code), code == ';' ? 18 : 17);
        }
    }

    static void promise04_a_height_is_0_to_9() {
        for (int many = 0; many < 12; many++) {
            String ahead = "00000000;0;" + "000000000000".substring(0, many);
            for (char code = 1; code <= 126; code++) {
                boolean good = code >= '0' && code <= '9';
                Check.due(many + ", code " + (int) code, faultOf(ahead + code), 11 + many + (good ? 1 : 0));
            }
        }
    }

    static void promise04_twelve_heights_at_most() {
        Check.due("twelve", faultOf("00000000;0;123456789012"), 23);
        Check.due("thirteen", faultOf("00000000;0;1234567890123"), 23);
        Check.due("thirteen, eight STAIRS", faultOf("00000000;01234567;1234567890123"), 30);
        Check.due("to the end of a full page", faultOf("00000000;01234567;12345678901234"), 30);
        Check.due("a semicolon behind twelve", faultOf("00000000;0;123456789012;"), 23);
    }

    static void promise04_the_first_of_several() {
        Check.due("two", faultOf("0a0b"), 1);
        Check.due("all", faultOf("aaaaaaaa"), 0);
        Check.due("none behind it is amiss", faultOf("/0000000;0;00"), 0);
        Check.due("a full page of them", faultOf("z".repeat(32)), 0);
        Check.due("the last of all", faultOf("00000000;0;00z"), 13);
    }

    static void promise04_it_changes_nothing() {
        for (State state : State.values()) {
            state.answers("fault", LowWater::fault);
        }
    }

    // ---- 5 shore

    private static void none(String text) {
        LowWater x = Check.page(text);
        Check.refused(text, x, STATE, LowWater::shore);
        Check.due("how many letters stay of " + text, x.blank(), text.length());
    }

    static void promise05_an_empty_page_is_none() {
        none("");
    }

    static void promise05_what_only_begins_one_is_none() {
        for (int many = 0; many < 20; many++) {
            none(LONGEST.substring(0, many));
        }
        none("00000000;0");
        none("00000000;0;");
    }

    static void promise05_one_height_is_none() {
        none("00000000;0;0");
        none("00000000;01234567;9");
    }

    static void promise05_two_heights_to_twelve() {
        for (int many = 2; many <= 12; many++) {
            String heights = "987654321098".substring(0, many);
            LowWater x = Check.page("00000000;0;" + heights);
            Check.due(many + " heights", x.shore(), many);
            Check.due(many + " heights are counted", x.count(3), many);
            for (int hours = 0; hours < 2 * many; hours++) {
                Check.due(many + " heights, in " + hours, x.tide(hours), heights.charAt(hours % many) - '0');
            }
        }
    }

    static void promise05_thirteen_heights_are_none() {
        none("00000000;0;0000000000000");
        none("00000000;01234567;0000000000000");
    }

    static void promise05_one_STAIR_to_eight() {
        for (int many = 1; many <= 8; many++) {
            LowWater x = Check.page("00000000;" + "76543210".substring(0, many) + ";00");
            Check.due(many + " STAIRS", x.shore(), 2);
            Check.due(many + " STAIRS are counted", x.count(2), many);
            for (int c = 0; c < 8; c++) {
                Check.due(many + " STAIRS, at " + c, x.cell(c, 1), c >= 8 - many ? 1 : 0);
            }
        }
    }

    static void promise05_no_STAIR_or_a_like_one_or_8_is_none() {
        none("00000000;;00");
        none("00000000;00;00");
        none("00000000;012345670;00");
        none("00000000;8;00");
        none("00000000;/;00");
    }

    static void promise05_LEVELS_and_heights_0_to_9() {
        LowWater x = Check.page("09876543;0;09");
        Check.due("shore", x.shore(), 2);
        Check.due("LEVEL 0", x.cell(0, 0), 0);
        Check.due("LEVEL 9", x.cell(1, 0), 9);
        Check.due("height 0", x.tide(0), 0);
        Check.due("height 9", x.tide(1), 9);
        none("0987654/;0;09");
        none(":9876543;0;09");
        none("09876543;0;0/");
        none("09876543;0;:9");
    }

    static void promise05_seven_LEVELS_or_nine_are_none() {
        none("0000000;0;00");
        none("000000000;0;00");
    }

    static void promise05_what_stands_behind_or_ahead_is_none() {
        none("00000000;0;00;");
        none("00000000;0;00 ");
        none(" 00000000;0;00");
    }

    static void promise05_THE_PAGE_is_empty_then() {
        LowWater x = Check.shore(LONGEST);
        Check.due("count", x.count(7), 0);
        Check.due("fault", x.fault(), 0);
        Check.due("again", x.shore(), STATE);
        Check.due("blank", x.blank(), 0);
    }

    static void promise05_all_of_another_one_is_gone() {
        LowWater x = State.FULL.make();
        x.blank();
        Check.write(x, "00000001;3;05");
        Check.due("heights", x.shore(), 2);
        Check.due("THINGS", x.count(0), 0);
        Check.due("THINGS, about", x.about(0, 0), UNKNOWN);
        Check.due("hour 0", x.count(1), 0);
        Check.due("STAIRS", x.count(2), 1);
        Check.due("heights counted", x.count(3), 2);
        Check.due("TAKEN", x.count(5), 0);
        Check.due("MARKS", x.count(6), 0);
        Check.due("MARKS, then", x.then(0), STATE);
        Check.due("LEVEL", x.cell(0, 0), 0);
        Check.due("LEVEL of the last", x.cell(7, 0), 1);
        Check.due("an old STAIR", x.cell(0, 1), 0);
        Check.due("an old STAIR, share", x.share(0), UNKNOWN);
        Check.due("heights over again", x.tide(2), 0);
        Check.due("THE BARGE", x.barge(0), -1);
        Check.due("how often", x.count(8), 2);
        Check.due("the first number again", x.thing(0, 0, 1), 0);
        for (int n = 1; n < 8; n++) {
            Check.due("eight THINGS again", x.thing(0, 0, 1), n);
        }
    }

    static void promise05_the_same_text_is_another_SHORE() {
        LowWater x = State.BARE.make();
        long before = x.digest();
        x.thing(0, 0, 1);
        x.hour();
        Check.write(x, "40213024;16;25130");
        Check.due("heights", x.shore(), 5);
        Check.due("but for how often it was read", x.digest(), before + 31);
    }

    static void promise05_a_refused_page_changes_nothing() {
        for (State state : new State[] {State.NEW, State.BARE, State.FULL}) {
            state.refuses("shore", STATE, LowWater::shore);
        }
    }

    // ---- 6 cell

    static void promise06_refusals_in_their_order() {
        for (State state : State.values()) {
            for (int cell : Edges.WIDE) {
                for (int what : Edges.WIDE) {
                    int due = Edges.noCell(cell) ? UNKNOWN : Edges.outOf(what, 0, 3) ? OUTSIDE
                        : state.hasShore() ? 0 : STATE;
                    state.asks("cell " + cell + " " + what, due, o -> o.cell(cell, what));
                }
            }
        }
    }

    static void promise06_the_LEVEL_as_told() {
        LowWater x = Check.shore("01234589;0;99");
        for (int barge = -1; barge < 8; barge++) {
            x.barge(barge);
            for (int c = 0; c < 8; c++) {
                Check.due(c + " under a barge over " + barge, x.cell(c, 0), "01234589".charAt(c) - '0');
            }
        }
    }

    static void promise06_a_height_equal_to_the_LEVEL_is_DRY() {
        for (int level = 0; level <= 9; level++) {
            LowWater x = Check.shore(String.valueOf(level).repeat(8) + ";0;0123456789");
            for (int height = 0; height <= 9; height++) {
                Check.due("LEVEL " + level + ", height " + height, x.cell(7, 2), height <= level ? 1 : 0);
                x.hour();
            }
        }
    }

    static void promise06_no_THING_to_eight() {
        LowWater x = Check.shore("00000000;0;00");
        for (int n = 0; n < 8; n++) {
            Check.due("none yet in the last", x.cell(7, 3), n);
            x.thing(3, 7, 1);
        }
        Check.due("eight", x.cell(7, 3), 8);
        Check.due("none beside", x.cell(6, 3), 0);
    }

    static void promise06_TAKEN_and_OUT_lie_in_no_CELL() {
        LowWater x = Check.shore("00000009;0;10");
        x.thing(0, 0, 1);
        x.thing(0, 7, 1);
        x.take(7);
        x.hour();
        for (int c = 0; c < 8; c++) {
            Check.due("in " + c, x.cell(c, 3), 0);
        }
    }

    // ---- 7 tide

    static void promise07_refusals_in_their_order() {
        for (State state : State.values()) {
            for (int hours : Edges.WIDE) {
                int due = Edges.outOf(hours, 0, 99) ? OUTSIDE : state.hasShore() ? 0 : STATE;
                state.asks("tide " + hours, due, o -> o.tide(hours));
            }
        }
    }

    static void promise07_0_is_now() {
        LowWater x = Check.shore("00000000;0;385");
        Check.due("first", x.tide(0), 3);
        x.hour();
        Check.due("second", x.tide(0), 8);
    }

    static void promise07_THE_TIDE_begins_over_again() {
        for (int many = 2; many <= 12; many++) {
            String heights = "370481592608".substring(0, many);
            LowWater x = Check.shore("99999999;0;" + heights);
            for (int gone = 0; gone < 30; gone++) {
                for (int hours : new int[] {0, 1, many - 1, many, many + 1, 98, 99}) {
                    int due = heights.charAt((gone + hours) % many) - '0';
                    Check.due(many + " heights, " + gone + " gone, in " + hours, x.tide(hours), due);
                }
                x.hour();
            }
        }
    }

    static void promise07_THE_TIDE_after_many_hours() {
        LowWater x = Check.shore("99999999;0;3704815");
        for (int gone = 0; gone < 400; gone++) {
            x.hour();
        }
        Check.due("400 gone", x.tide(0), "3704815".charAt(400 % 7) - '0');
        Check.due("400 gone, in 99", x.tide(99), "3704815".charAt(499 % 7) - '0');
    }

    // ---- 8 barge

    static void promise08_refusals_in_their_order() {
        for (State state : State.values()) {
            for (int cell : Edges.WIDE) {
                int due = Edges.outOf(cell, -1, 7) ? UNKNOWN : state.hasShore() ? 0 : STATE;
                state.does("barge " + cell, due, o -> o.barge(cell));
            }
        }
    }

    static void promise08_over_none_at_first() {
        Check.due("barge", State.BARE.make().barge(0), -1);
        Check.due("none over none", State.BARE.make().barge(-1), -1);
    }

    static void promise08_over_the_same_CELL_again() {
        LowWater x = Check.shore("33333333;0;22");
        x.barge(7);
        Check.due("again", x.barge(7), 7);
        Check.due("still 2 less", x.cell(7, 2), 0);
        Check.due("none", x.barge(-1), 7);
        Check.due("none again", x.barge(-1), -1);
    }

    /** By the height of the hour: the greatest that a CELL is DRY at is what its LEVEL counts. */
    private static int counted(int level, int barge, int cell) {
        LowWater x = Check.shore(String.valueOf(level).repeat(8) + ";0;0123456789");
        x.barge(barge);
        int counts = -1;
        for (int height = 0; height <= 9; height++) {
            counts = x.cell(cell, 2) == 1 ? height : counts;
            x.hour();
        }
        return counts;
    }

    static void promise08_2_less_there_1_less_beside() {
        for (int barge = 0; barge < 8; barge++) {
            for (int c = 0; c < 8; c++) {
                int off = Math.abs(c - barge);
                Check.due("over " + barge + ", at " + c, counted(9, barge, c), off == 0 ? 7 : off == 1 ? 8 : 9);
            }
        }
    }

    static void promise08_0_at_least() {
        for (int level = 0; level <= 3; level++) {
            Check.due("there, of " + level, counted(level, 3, 3), Math.max(0, level - 2));
            Check.due("beside, of " + level, counted(level, 3, 4), Math.max(0, level - 1));
        }
    }

    static void promise08_over_none_nothing_is_less() {
        for (int c = 0; c < 8; c++) {
            Check.due("at " + c, counted(5, -1, c), 5);
        }
    }

    // ---- 9 hour

    static void promise09_refusals() {
        for (State state : State.values()) {
            state.does("hour", state.hasShore() ? 0 : STATE, LowWater::hour);
        }
    }

    static void promise09_no_THINGS() {
        LowWater x = State.BARE.make();
        Check.due("none moves", x.hour(), 0);
        Check.due("the next hour", x.count(1), 1);
    }

    /** Where one of each KIND lies an hour later; the last number is how many have moved. */
    private static void drift(String text, int from, int... due) {
        LowWater x = Check.shore(text);
        for (int kind = 0; kind < 5; kind++) {
            x.thing(kind, from, 1);
        }
        Check.due(text + " from " + from + ", how many", x.hour(), due[5]);
        for (int kind = 0; kind < 5; kind++) {
            Check.due(text + " from " + from + ", KIND " + kind, x.about(kind, 1), due[kind]);
        }
    }

    static void promise09_a_like_height_is_neither_FLOOD_nor_EBB() {
        drift("00000000;0;55", 3, 3, 3, 3, 3, 3, 0);
    }

    static void promise09_one_higher_is_FLOOD() {
        drift("00000000;0;56", 3, 4, 5, 3, 3, 6, 3);
    }

    static void promise09_one_lower_is_EBB() {
        drift("00000000;0;54", 3, 2, 1, 2, 3, 0, 4);
    }

    static void promise09_at_most_to_7() {
        drift("00000000;0;12", 4, 5, 6, 4, 4, 7, 3);
        drift("00000000;0;12", 5, 6, 7, 5, 5, 7, 3);
        drift("00000000;0;12", 6, 7, 7, 6, 6, 7, 3);
        drift("00000000;0;12", 7, 7, 7, 7, 7, 7, 0);
    }

    static void promise09_what_would_come_below_0_is_OUT() {
        drift("00000000;0;21", 3, 2, 1, 2, 3, 0, 4);
        drift("00000000;0;21", 2, 1, 0, 1, 2, -2, 4);
        drift("00000000;0;21", 1, 0, -2, 0, 1, -2, 4);
        drift("00000000;0;21", 0, -2, -2, -2, 0, -2, 4);
    }

    static void promise09_in_a_DRY_CELL_none_drifts() {
        drift("00020000;0;29", 3, 3, 3, 3, 3, 3, 0);
        drift("00020000;0;20", 3, 3, 3, 3, 3, 3, 0);
        drift("00020000;0;39", 3, 4, 5, 3, 3, 6, 3);
        drift("00020000;0;31", 3, 2, 1, 2, 3, 0, 4);
    }

    static void promise09_it_stops_in_the_first_that_is_DRY_in_the_next_hour() {
        drift("00002000;0;12", 3, 4, 4, 3, 3, 4, 3);
        drift("00001000;0;12", 3, 4, 5, 3, 3, 6, 3);
        drift("00000200;0;12", 3, 4, 5, 3, 3, 5, 3);
        drift("00000020;0;12", 3, 4, 5, 3, 3, 6, 3);
        drift("00000111;0;21", 7, 6, 6, 6, 7, 6, 4);
        drift("00001001;0;21", 7, 6, 5, 6, 7, 4, 4);
    }

    static void promise09_it_does_not_stop_in_one_that_is_DRY_in_this_hour_only() {
        drift("00002000;0;1213", 3, 4, 4, 3, 3, 4, 3);
        drift("00001000;0;1213", 3, 4, 5, 3, 3, 6, 3);
    }

    static void promise09_it_does_not_stop_in_one_that_is_DRY_in_an_hour_after_the_next() {
        drift("00001000;0;321", 6, 5, 4, 5, 6, 3, 4);
        drift("00002000;0;321", 6, 5, 4, 5, 6, 4, 4);
        drift("00001000;0;231", 3, 4, 5, 3, 3, 6, 3);
        drift("00002000;0;332", 6, 6, 6, 6, 6, 6, 0);
    }

    static void promise09_it_stops_in_0_if_that_is_DRY() {
        drift("10000000;0;21", 1, 0, 0, 0, 1, 0, 4);
        drift("10000000;0;21", 2, 1, 0, 1, 2, 0, 4);
        drift("00000000;0;20", 0, -2, -2, -2, 0, -2, 4);
    }

    static void promise09_by_THE_TIDE_over_again() {
        LowWater x = Check.shore("00000000;0;312");
        x.hour();
        x.hour();
        x.thing(0, 3, 1);
        x.thing(2, 3, 1);
        Check.due("from the last height to the first: FLOOD", x.hour(), 1);
        Check.due("THING", x.about(0, 1), 4);
        Check.due("from the first again: EBB", x.hour(), 2);
        Check.due("THING again", x.about(0, 1), 3);
        Check.due("HEAVY", x.about(1, 1), 2);
    }

    static void promise09_it_stops_where_THE_BARGE_leaves_it_DRY() {
        LowWater x = Check.shore("00003000;0;23");
        x.thing(4, 3, 1);
        x.barge(6);
        x.hour();
        Check.due("two off", x.about(0, 1), 4);
        LowWater y = Check.shore("00003000;0;23");
        y.thing(4, 3, 1);
        y.barge(5);
        y.hour();
        Check.due("beside", y.about(0, 1), 6);
    }

    static void promise09_it_stops_where_THE_BARGE_leaves_it_DRY_by_EBB() {
        LowWater x = Check.shore("00002000;0;32");
        x.thing(4, 6, 1);
        x.barge(2);
        x.hour();
        Check.due("two off", x.about(0, 1), 4);
        LowWater y = Check.shore("00002000;0;32");
        y.thing(4, 6, 1);
        y.barge(3);
        y.hour();
        Check.due("beside", y.about(0, 1), 3);
    }

    static void promise09_THE_BARGE_makes_it_WET_in_this_hour() {
        LowWater x = Check.shore("00020000;0;12");
        x.thing(0, 3, 1);
        x.barge(2);
        Check.due("beside, none moves", x.hour(), 0);
        LowWater y = Check.shore("00020000;0;12");
        y.thing(0, 3, 1);
        y.barge(3);
        Check.due("there, one moves", y.hour(), 1);
    }

    static void promise09_all_eight_or_none() {
        LowWater x = Check.shore("00000000;0;1211");
        for (int n = 0; n < 8; n++) {
            x.thing(0, 0, 1);
        }
        Check.due("all", x.hour(), 8);
        Check.due("all, back", x.hour(), 8);
        Check.due("none", x.hour(), 0);
    }

    static void promise09_OUT_already_does_not_count_again() {
        LowWater x = Check.shore("00000000;0;210");
        x.thing(0, 0, 1);
        Check.due("it is OUT then", x.hour(), 1);
        Check.due("it was OUT", x.hour(), 0);
        Check.due("OUT stays", x.about(0, 1), -2);
        x.hour();
        x.hour();
        Check.due("OUT stays by FLOOD", x.about(0, 1), -2);
    }

    static void promise09_TAKEN_ones_do_not_drift() {
        LowWater x = Check.shore("00000000;0;012");
        x.thing(4, 7, 1);
        x.take(7);
        x.hour();
        Check.due("none", x.hour() + x.hour(), 0);
        Check.due("TAKEN stays", x.about(0, 1), -1);
    }
}
