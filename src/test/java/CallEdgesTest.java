/** Promises 1 to 16: the sentences that name a boundary, each with what is just taken and what is just refused. */
public final class CallEdgesTest {
    private static final int NONE = AirIndex.NONE;
    private static final int BY_NONE = -2;
    /** Two SUBSTANCES, three STATIONS (two in DISTRICT 0, one in 2), four HOURS; a READ and an INDEX 0 is not missing. */
    private static final String OFFICE = "bands 10 20 500;smooth 50;substance 1 1 0 0 500 500;substance 2 2 0 0 500 500;"
        + "station 0;station 2;station 0;series 0 0 0 10 19 20;series 0 1 0 x 500 999;series 1 1 x x 0 0;series 2 0 0 x x 9;";
    /** STATIONS, SUBSTANCES and HOURS of that. */
    private static final int[] COUNTS = {3, 2, 4};

    public static void main(String[] args) {
        newObject();
        feed();
        end();
        text();
        fault();
        now();
        read();
        mean();
        scale();
        back();
        sub();
        index();
        district();
        lasts();
        worst();
        forecast();
        suchOnes();
        Check.finish();
    }

    private static void newObject() {
        Check.sentence("`AirIndex()`: B 50 100 150, A 50, one SUBSTANCE (WINDOW 1, NEED 1, points 0 0 and 100 100), one"
            + " STATION in DISTRICT 0, NOW 0; an empty tape.");
        String told = "bands 50 100 150;smooth 50;substance 1 1 0 0 100 100;station 0;";
        Probe.same("the TEXT of a new object", AirIndex::new, () -> Check.told(told));
        Probe.same("that TEXT, pass() and correct()", () -> passed(new AirIndex()), () -> passed(Check.told(told)));
        AirIndex air = new AirIndex();
        Check.due("fault()", air.fault(), 0);
        Check.due("undo()", air.undo(), NONE);
        Check.due("end(1)", air.end(1), false);
        Check.due("text() of an empty tape", air.text(), -1);
    }

    /** HOURS with an INDEX just below, at and just above each B that can be reached. */
    private static AirIndex passed(AirIndex air) {
        air.pass(8);
        int[] reads = {0, 49, 50, 51, 99, 100, 101};
        for (int hour = 0; hour < reads.length; hour++) {
            air.correct(0, 0, hour, reads[hour]);
        }
        return air;
    }

    private static AirIndex fed(int bytes) {
        AirIndex air = new AirIndex();
        for (int fed = 0; fed < bytes; fed += 20) {
            air.feed(0x20202020, 0x20202020, 0x20202020, 0x20202020, 0x20202020);
        }
        Check.due("end(" + bytes + ")", air.end(bytes), true);
        return air;
    }

    private static void feed() {
        Check.sentence("Twenty bytes come behind the tape, of each number the highest first: how many it has; NONE, and"
            + " none come, if it would have more than 640.");
        for (int bytes = 0; bytes <= 640; bytes++) {
            AirIndex air = fed(bytes);
            int due = bytes <= 620 ? bytes + 20 : NONE;
            Check.due("feed() at " + bytes, air.feed(-1, Integer.MIN_VALUE, Integer.MAX_VALUE, 0, 1), due);
            Check.due("bytes behind feed() at " + bytes, air.now(6), due == NONE ? bytes : due);
            // The first byte that is no blank is the first one that came; the text ends at 600.
            int place = Math.min(600, bytes);
            Check.due("text() behind feed() at " + bytes, air.text(), -1 - place);
        }
        for (int place = 0; place < 20; place++) {
            int[] words = {0x20202020, 0x20202020, 0x20202020, 0x20202020, 0x20202020};
            words[place / 4] |= 0x80 << 24 - place % 4 * 8;
            AirIndex air = new AirIndex();
            air.feed(words[0], words[1], words[2], words[3], words[4]);
            Check.due("text() of a byte 160 at " + place, air.text(), -1 - place);
        }
        AirIndex full = fed(640);
        Check.due("feed() at 640", full.feed(0, 0, 0, 0, 0), NONE);
        Check.due("end(620)", full.end(620), true);
        Check.due("feed() at 620", full.feed(0, 0, 0, 0, 0), 640);
    }

    private static void end() {
        Check.sentence("The tape has its first n bytes alone: true; false, if it has not so many, or n is below 0.");
        int[] lengths = {0, 1, 19, 20, 600, 639, 640};
        for (int bytes : lengths) {
            for (int n : Check.notBelow(bytes + 1)) {
                AirIndex air = fed(bytes);
                Check.due("end(" + n + ") of " + bytes, air.end(n), n >= 0 && n <= bytes);
                Check.due("bytes behind end(" + n + ")", air.now(6), bytes);
            }
            AirIndex air = fed(bytes);
            Check.due("end(" + bytes + ") of as many", air.end(bytes), true);
            Check.due("bytes", air.now(6), bytes);
            if (bytes > 0) {
                Check.due("end(" + (bytes - 1) + ") of one more", air.end(bytes - 1), true);
                Check.due("bytes", air.now(6), bytes - 1);
                Check.due("end(" + bytes + ") of one less", air.end(bytes), false);
                Check.due("bytes", air.now(6), bytes - 1);
            }
            Check.due("end(0)", air.end(0), true);
            Check.due("bytes", air.now(6), 0);
            Check.due("end(0) of none", air.end(0), true);
            Check.due("end(1) of none", air.end(1), false);
        }
        cutsAnywhere();
        AirIndex air = new AirIndex();
        Check.feed(air, Texts.PLAIN + "series 0 0 5 7;");
        Check.due("end() behind a LINE", air.end(Texts.PLAIN.length()), true);
        Check.due("LINES of the first bytes alone", air.text(), 4);
        Check.due("NOW", air.now(0), 0);
    }

    /** What stood behind the cut is gone: no TOKEN goes on in it, whether this text or an earlier tape had it. */
    private static void cutsAnywhere() {
        String[] texts = {Texts.PLAIN + "series 0 0 55 x 777;", "bands 1 2 3;smooth 1001;", "bands 1 2 3;smooth 5x;",
            "bands 1 2 3;smooth 100 x;", "bands 1 501 502;", Texts.office(3, 4) + "series 3 2 xx 5;"};
        for (String text : texts) {
            for (int n = 0; n <= text.length(); n++) {
                AirIndex plain = new AirIndex();
                int due = Check.tell(plain, text.substring(0, n));
                AirIndex cut = new AirIndex();
                Check.feed(cut, text);
                Check.due("end(" + n + ")", cut.end(n), true);
                Check.due("text() of the first " + n + " bytes of " + text, cut.text(), due);
                Check.due("fault() of the first " + n + " bytes of " + text, cut.fault(), plain.fault());
            }
        }
        AirIndex full = new AirIndex();
        Check.feed(full, "5".repeat(640));
        Check.due("end(3) of a full tape", full.end(3), true);
        Check.due("text() of three digits", full.text(), -1);
        // These 600 bytes end in a NUMBER, and the bytes that stood behind them were digits.
        Check.feed(full, " ".repeat(580) + "bands 1 2 3;smooth 5");
        Check.due("text() of 600 bytes", full.text(), -601);
        Check.due("fault() of 600 bytes", full.fault(), 1);
    }

    private static void text() {
        Check.sentence("The tape (empty then, even with a FAULT) is a TEXT: how many LINES; -1 less the place of a FAULT:"
            + " all stays.");
        AirIndex air = new AirIndex();
        Check.due("text() of the fewest LINES", Check.tell(air, Texts.PLAIN), 4);
        Check.due("bytes behind a TEXT", air.now(6), 0);
        Check.due("text() of an empty tape", air.text(), -1);
        StringBuilder most = new StringBuilder(Texts.office(3, 4));
        for (int pair = 0; pair < 12; pair++) {
            most.append("series ").append(pair / 3).append(' ').append(pair % 3).append(" 5;");
        }
        Check.due("text() of the most LINES", Check.tell(air, most.toString()), 21);
        Check.due("text() of a FAULT at 0", Check.tell(air, "?" + Texts.PLAIN), -1);
        Check.due("bytes behind a FAULT at 0", air.now(6), 0);
        Check.due("text() of a FAULT at 1", Check.tell(air, " ?"), -2);
        Check.due("bytes behind a FAULT at 1", air.now(6), 0);
        Check.due("text() of a FAULT at 600", Check.tell(air, Texts.filledTo(640, Texts.PLAIN)), -601);
        Check.due("bytes behind a FAULT at 600", air.now(6), 0);
        Check.due("READS in all stay", air.now(3), 12);
        Check.due("the tape is empty for what comes next", Check.tell(air, Texts.PLAIN), 4);
        Check.due("READS in all of that", air.now(3), 0);
    }

    private static void fault() {
        Check.sentence("The kind of the FAULT of the latest text(); 0 without one and ahead of any.");
        AirIndex air = new AirIndex();
        Check.due("fault() ahead of any text()", air.fault(), 0);
        Check.feed(air, "?");
        Check.due("fault() ahead of text()", air.fault(), 0);
        String[] texts = {"?", "bands 0", Texts.office(3, 0) + "substance", Texts.PLAIN, "bands 0", "", Texts.PLAIN,
            Texts.office(1, 5), Texts.PLAIN};
        int[] due = {1, 2, 3, 0, 2, 1, 0, 3, 0};
        air.end(0);
        for (int i = 0; i < texts.length; i++) {
            int before = air.fault();
            Check.feed(air, texts[i]);
            Check.due("fault() ahead of text() " + i, air.fault(), before);
            air.text();
            Check.due("fault() behind text() " + i, air.fault(), due[i]);
            Check.due("fault() asked once more", air.fault(), due[i]);
        }
    }

    private static void now() {
        Check.sentence("0 NOW, 1 SUBSTANCES, 2 STATIONS, 3 READS in all, 4 A, 5 what can be undone, 6 bytes of the tape."
            + " NONE for another what.");
        int[] empty = {0, 1, 1, 0, 50, 0, 0};
        AirIndex fresh = new AirIndex();
        AirIndex full = Check.told("bands 1 2 3;smooth 0;" + Texts.SUBSTANCE.repeat(3) + Texts.STATION.repeat(4)
            + "series 3 2" + " 0".repeat(24) + ";series 0 1" + " x".repeat(24) + ";");
        full.pass(12);
        full.pass(12);
        full.pass(12);
        for (int share = 90; share <= 99; share++) {
            full.smooth(share);
        }
        full.correct(0, 0, 59, 0);
        full.correct(3, 2, 0, NONE);
        full.correct(3, 2, 1, NONE);
        for (int fed = 0; fed < 640; fed += 20) {
            full.feed(0, 0, 0, 0, 0);
        }
        int[] most = {60, 3, 4, 23, 99, 10, 640};
        for (int what = 0; what <= 6; what++) {
            Check.due("now(" + what + ") of a new object", fresh.now(what), empty[what]);
            Check.due("now(" + what + ") of a full one", full.now(what), most[what]);
        }
        for (int what : Check.notBelow(7)) {
            Check.due("now(" + what + ")", full.now(what), NONE);
        }
    }

    private static void read() {
        Check.sentence("READ. NONE: no such ones, it is missing.");
        AirIndex air = Check.told(OFFICE);
        Check.due("read(0, 0, 0), the first ones", air.read(0, 0, 0), 0);
        Check.due("read(2, 0, 3), the last STATION", air.read(2, 0, 3), 9);
        Check.due("read(0, 1, 3), the last SUBSTANCE and HOUR", air.read(0, 1, 3), 999);
        Check.due("read(2, 0, 1), missing", air.read(2, 0, 1), NONE);
        Check.due("read(2, 1, 0), no 'series'", air.read(2, 1, 0), NONE);
        Check.noSuchPlaces("read()", COUNTS, NONE, (a, b, h) -> air.read(a, b, h));
    }

    private static void mean() {
        Check.sentence("MEAN. NONE: none, no such ones.");
        AirIndex air = Check.told(OFFICE);
        Check.due("mean(0, 0, 0)", air.mean(0, 0, 0), 0);
        Check.due("mean(0, 1, 3)", air.mean(0, 1, 3), 749);
        Check.due("mean(2, 0, 3)", air.mean(2, 0, 3), 9);
        Check.due("mean(1, 1, 3)", air.mean(1, 1, 3), 0);
        Check.due("mean(1, 1, 2), fewer than NEED", air.mean(1, 1, 2), NONE);
        Check.noSuchPlaces("mean()", COUNTS, NONE, (a, b, h) -> air.mean(a, b, h));
    }

    private static void scale() {
        Check.sentence("SUB of a SUBSTANCE at a LEVEL (0 to 999). NONE: no such ones.");
        AirIndex air = Check.told("bands 1 2 3;smooth 5;substance 1 1 0 2 999 500;substance 1 1 998 0 999 1;station 0;");
        Check.due("scale(0, 0)", air.scale(0, 0), 2);
        Check.due("scale(0, 999)", air.scale(0, 999), 500);
        Check.due("scale(1, 0)", air.scale(1, 0), 0);
        Check.due("scale(1, 999)", air.scale(1, 999), 1);
        for (int level : Check.notBelow(1000)) {
            Check.due("scale(0, " + level + ")", air.scale(0, level), NONE);
            Check.due("scale(1, " + level + ")", air.scale(1, level), NONE);
        }
        for (int substance : Check.notBelow(2)) {
            Check.due("scale(" + substance + ", 0)", air.scale(substance, 0), NONE);
            Check.due("scale(" + substance + ", 999)", air.scale(substance, 999), NONE);
        }
    }

    private static void back() {
        Check.sentence("The least LEVEL (0 to 999) at which SUB of a SUBSTANCE is INDEX or more; -2: there is none. NONE: no"
            + " such SUBSTANCE, INDEX not 0 to 500.");
        AirIndex air = Check.told("bands 1 2 3;smooth 5;substance 1 1 0 2 999 500;substance 1 1 10 0 20 0 30 7 31 499;"
            + "substance 1 1 998 3 999 4;station 0;");
        int[][] due = {{0, 0, 0}, {0, 2, 0}, {0, 3, 3}, {0, 499, 997}, {0, 500, 999}, {1, 0, 0}, {1, 1, 22}, {1, 2, 23},
            {1, 7, 30}, {1, 8, 31}, {1, 499, 31}, {1, 500, BY_NONE}, {2, 0, 0}, {2, 3, 0}, {2, 4, 999}, {2, 5, BY_NONE},
            {2, 500, BY_NONE}};
        for (int[] row : due) {
            Check.due("back(" + row[0] + ", " + row[1] + ")", air.back(row[0], row[1]), row[2]);
        }
        for (int index : Check.notBelow(501)) {
            Check.due("back(0, " + index + ")", air.back(0, index), NONE);
            Check.due("back(2, " + index + ")", air.back(2, index), NONE);
        }
        for (int substance : Check.notBelow(3)) {
            Check.due("back(" + substance + ", 0)", air.back(substance, 0), NONE);
            Check.due("back(" + substance + ", 500)", air.back(substance, 500), NONE);
        }
        for (int level = 1; level <= 999; level++) {
            Check.due("back() to a step at " + level, Check.told(Texts.step(level)).back(0, 1), level);
        }
        AirIndex flat = Check.told("bands 1 2 3;smooth 5;substance 1 1 0 0 999 0;substance 1 1 0 500 999 500;station 0;");
        Check.due("back() of a line at 0", flat.back(0, 0), 0);
        Check.due("back() above a line at 0", flat.back(0, 1), BY_NONE);
        Check.due("back() of a line at 500", flat.back(1, 500), 0);
    }

    private static void sub() {
        Check.sentence("SUB of a STATION. NONE: none, no such ones.");
        AirIndex air = Check.told(OFFICE);
        Check.due("sub(0, 0, 0), an INDEX 0", air.sub(0, 0, 0), 0);
        Check.due("sub(0, 1, 3), the greatest", air.sub(0, 1, 3), 500);
        Check.due("sub(2, 0, 3)", air.sub(2, 0, 3), 9);
        Check.due("sub(1, 1, 2), no MEAN", air.sub(1, 1, 2), NONE);
        Check.due("sub(2, 1, 3), no READ", air.sub(2, 1, 3), NONE);
        Check.noSuchPlaces("sub()", COUNTS, NONE, (a, b, h) -> air.sub(a, b, h));
    }

    private static void index() {
        Check.sentence("INDEX of a STATION (what 0), RULING (1), BAND (2). NONE: none, no such ones, another what.");
        AirIndex air = Check.told(OFFICE);
        int[][] due = {{0, 0, 0, 0, 0}, {0, 1, 10, 0, 1}, {0, 2, 19, 0, 1}, {0, 3, 500, 1, 3}, {1, 0, NONE, NONE, NONE},
            {1, 2, NONE, NONE, NONE}, {1, 3, 0, 1, 0}, {2, 0, 0, 0, 0}, {2, 1, NONE, NONE, NONE}, {2, 3, 9, 0, 0}};
        for (int[] row : due) {
            for (int what = 0; what <= 2; what++) {
                Check.due("index(" + row[0] + ", " + row[1] + ", " + what + ")", air.index(row[0], row[1], what), row[2 + what]);
            }
        }
        for (int what = 0; what <= 2; what++) {
            for (int station : Check.notBelow(3)) {
                Check.due("index(" + station + ", 0, " + what + ")", air.index(station, 0, what), NONE);
            }
            for (int hour : Check.notBelow(4)) {
                Check.due("index(0, " + hour + ", " + what + ")", air.index(0, hour, what), NONE);
            }
        }
        for (int what : Check.notBelow(3)) {
            Check.due("index(0, 3, " + what + ")", air.index(0, 3, what), NONE);
        }
    }

    private static void district() {
        Check.sentence("INDEX of a DISTRICT (0 to 2; what 0), WORST (1), BAND (2), how many of its STATIONS have an INDEX (3)."
            + " NONE: none, no such ones, another what.");
        AirIndex air = Check.told(OFFICE);
        int[][] due = {{0, 0, 0, 0, 0, 2}, {0, 1, 10, 0, 1, 1}, {0, 2, 19, 0, 1, 1}, {0, 3, 500, 0, 3, 2},
            {1, 0, NONE, NONE, NONE, 0}, {1, 3, NONE, NONE, NONE, 0}, {2, 0, NONE, NONE, NONE, 0}, {2, 3, 0, 1, 0, 1}};
        for (int[] row : due) {
            for (int what = 0; what <= 3; what++) {
                Check.due("district(" + row[0] + ", " + row[1] + ", " + what + ")", air.district(row[0], row[1], what),
                    row[2 + what]);
            }
        }
        for (int what = 0; what <= 3; what++) {
            for (int district : Check.notBelow(3)) {
                Check.due("district(" + district + ", 0, " + what + ")", air.district(district, 0, what), NONE);
            }
            for (int hour : Check.notBelow(4)) {
                Check.due("district(0, " + hour + ", " + what + ")", air.district(0, hour, what), NONE);
                Check.due("district(1, " + hour + ", " + what + ")", air.district(1, hour, what), NONE);
            }
        }
        for (int what : Check.notBelow(4)) {
            Check.due("district(0, 3, " + what + ")", air.district(0, 3, what), NONE);
        }
        AirIndex all = Check.told("bands 1 2 3;smooth 5;" + Texts.SUBSTANCE + "station 2;".repeat(4) + "series 0 0 5;"
            + "series 1 0 5;series 2 0 5;series 3 0 5;");
        Check.due("all STATIONS of a DISTRICT", all.district(2, 0, 3), 4);
        Check.due("district() with NOW 0", new AirIndex().district(0, 0, 3), NONE);
    }

    private static void lasts() {
        Check.sentence("For how many HOURS in a row, up to that one, BAND of a STATION is such (1 to 3) or above. NONE: no"
            + " such ones.");
        AirIndex air = Check.told("bands 10 20 30;smooth 5;substance 1 1 0 0 500 500;station 0;station 0;"
            + "series 0 0 30 29 20 19 10 9 10 x 30 500;");
        int[][] due = {{1, 2, 3, 4, 5, 0, 1, 0, 1, 2}, {1, 2, 3, 0, 0, 0, 0, 0, 1, 2}, {1, 0, 0, 0, 0, 0, 0, 0, 1, 2}};
        for (int band = 1; band <= 3; band++) {
            for (int hour = 0; hour < 10; hour++) {
                Check.due("lasts(0, " + hour + ", " + band + ")", air.lasts(0, hour, band), due[band - 1][hour]);
                Check.due("lasts(1, " + hour + ", " + band + "): no INDEX", air.lasts(1, hour, band), 0);
            }
        }
        for (int number : Check.notBelow(2)) {
            Check.due("lasts(" + number + ", 0, 1)", air.lasts(number, 0, 1), NONE);
        }
        for (int hour : Check.notBelow(10)) {
            Check.due("lasts(0, " + hour + ", 1)", air.lasts(0, hour, 1), NONE);
        }
        for (int band : Check.notBelow(4)) {
            Check.due("lasts(0, 0, " + band + ")", air.lasts(0, 0, band), NONE);
        }
        Check.due("lasts(0, 0, 0)", air.lasts(0, 0, 0), NONE);
        Check.due("lasts(0, 5, 0)", air.lasts(0, 5, 0), NONE);
        Check.due("lasts() with NOW 0", new AirIndex().lasts(0, 0, 1), NONE);
        AirIndex long60 = Check.told("bands 1 2 3;smooth 5;substance 12 1 0 3 1 3;station 0;series 0 0 0;");
        for (int hour = 12; hour < 60; hour += 12) {
            long60.pass(12);
            long60.correct(0, 0, hour, 0);
        }
        long60.pass(11);
        Check.due("lasts() of all 60 HOURS", long60.lasts(0, 59, 3), 60);
    }

    private static void worst() {
        Check.sentence("The HOUR from one to another in which INDEX of a STATION is the greatest; of like ones the first."
            + " NONE: no such ones, it has none in them.");
        AirIndex air = Check.told("bands 1 2 3;smooth 5;substance 1 1 0 0 500 500;station 0;station 0;"
            + "series 0 0 7 x 0 5 9 9 9 0 x x;");
        int[][] due = {{0, 9, 4}, {0, 0, 0}, {0, 3, 0}, {0, 4, 4}, {1, 1, NONE}, {1, 2, 2}, {2, 3, 3}, {5, 6, 5}, {5, 9, 5},
            {7, 7, 7}, {7, 9, 7}, {8, 9, NONE}, {9, 9, NONE}, {4, 3, NONE}, {9, 0, NONE}, {1, 0, NONE}};
        for (int[] row : due) {
            Check.due("worst(0, " + row[0] + ", " + row[1] + ")", air.worst(0, row[0], row[1]), row[2]);
        }
        Check.due("worst(1, 0, 9): no INDEX", air.worst(1, 0, 9), NONE);
        for (int station : Check.notBelow(2)) {
            Check.due("worst(" + station + ", 0, 9)", air.worst(station, 0, 9), NONE);
        }
        for (int hour : Check.notBelow(10)) {
            Check.due("worst(0, " + hour + ", 9)", air.worst(0, hour, 9), NONE);
            Check.due("worst(0, 0, " + hour + ")", air.worst(0, 0, hour), NONE);
            Check.due("worst(0, " + hour + ", " + hour + ")", air.worst(0, hour, hour), NONE);
        }
        Check.due("worst() with NOW 0", new AirIndex().worst(0, 0, 0), NONE);
    }

    private static void forecast() {
        Check.sentence("FORECAST behind an HOUR. NONE: none, no such ones.");
        AirIndex air = Check.told(OFFICE);
        Check.due("forecast(0, 0, 0)", air.forecast(0, 0, 0), 0);
        Check.due("forecast(0, 0, 3)", air.forecast(0, 0, 3), 16);
        Check.due("forecast(1, 1, 1), no READ yet", air.forecast(1, 1, 1), NONE);
        Check.due("forecast(1, 1, 2)", air.forecast(1, 1, 2), 0);
        Check.due("forecast(2, 0, 2), the READ of HOUR 0", air.forecast(2, 0, 2), 0);
        Check.due("forecast(2, 0, 3)", air.forecast(2, 0, 3), 4);
        Check.due("forecast(2, 1, 3), no 'series'", air.forecast(2, 1, 3), NONE);
        Check.noSuchPlaces("forecast()", COUNTS, NONE, (a, b, h) -> air.forecast(a, b, h));
    }

    /** As many SUBSTANCES and STATIONS as may be told, and fewer behind such a TEXT: each number up to one too many. */
    private static void suchOnes() {
        Check.sentence("3 SUBSTANCES, 4 STATIONS at most, numbered from 0");
        for (int substances = 1; substances <= 3; substances++) {
            for (int stations = 1; stations <= 4; stations++) {
                for (int station = -1; station <= 4; station++) {
                    for (int substance = -1; substance <= 3; substance++) {
                        boolean isSuch = station >= 0 && station < stations && substance >= 0 && substance < substances;
                        asksAll(fewerThanBefore(substances, stations), station, substance, isSuch);
                    }
                    asksStation(fewerThanBefore(substances, stations), station, station >= 0 && station < stations);
                }
                for (int substance = -1; substance <= 3; substance++) {
                    boolean isSuch = substance >= 0 && substance < substances;
                    asksSubstance(fewerThanBefore(substances, stations), substance, isSuch);
                }
            }
        }
    }

    /** All READS are 5, in one HOUR; two TEXTS ahead told all that can be, so that both have left their numbers. */
    private static AirIndex fewerThanBefore(int substances, int stations) {
        AirIndex air = new AirIndex();
        Check.due("LINES of all that can be told", Check.tell(air, allRead(3, 4)), 21);
        Check.due("LINES of all that can be told", Check.tell(air, allRead(3, 4)), 21);
        int lines = 2 + substances + stations + substances * stations;
        Check.due("LINES of what is told then", Check.tell(air, allRead(substances, stations)), lines);
        return air;
    }

    private static String allRead(int substances, int stations) {
        StringBuilder text = new StringBuilder(Texts.office(substances, stations));
        for (int pair = 0; pair < substances * stations; pair++) {
            text.append("series ").append(pair / substances).append(' ').append(pair % substances).append(" 5;");
        }
        return text.toString();
    }

    private static void asksAll(AirIndex air, int a, int b, boolean isSuch) {
        String place = " of (" + a + ", " + b + ")";
        Check.due("read()" + place, air.read(a, b, 0), isSuch ? 5 : NONE);
        Check.due("mean()" + place, air.mean(a, b, 0), isSuch ? 5 : NONE);
        Check.due("sub()" + place, air.sub(a, b, 0), isSuch ? 5 : NONE);
        Check.due("forecast()" + place, air.forecast(a, b, 0), isSuch ? 5 : NONE);
        Check.due("keeps()" + place, air.keeps(a, b, 2) == NONE, !isSuch);
        Check.due("touches()" + place, air.touches(a, b, 0, 9), isSuch ? 1 : NONE);
        Check.due("correct()" + place, air.correct(a, b, 0, 9), isSuch ? 1 : -2);
    }

    private static void asksStation(AirIndex air, int a, boolean isSuch) {
        String place = " of STATION " + a;
        Check.due("INDEX" + place, air.index(a, 0, 0), isSuch ? 5 : NONE);
        Check.due("RULING" + place, air.index(a, 0, 1), isSuch ? 0 : NONE);
        Check.due("BAND" + place, air.index(a, 0, 2), isSuch ? 3 : NONE);
        Check.due("lasts()" + place, air.lasts(a, 0, 3), isSuch ? 1 : NONE);
        Check.due("worst()" + place, air.worst(a, 0, 0), isSuch ? 0 : NONE);
        Check.due("how many STATIONS have an INDEX", air.district(0, 0, 3), air.now(2));
    }

    private static void asksSubstance(AirIndex air, int b, boolean isSuch) {
        String place = " of SUBSTANCE " + b;
        Check.due("scale()" + place, air.scale(b, 9), isSuch ? 9 : NONE);
        Check.due("back()" + place, air.back(b, 9), isSuch ? 9 : NONE);
        Check.due("window()" + place, air.window(b, 12, 12), isSuch);
    }
}
