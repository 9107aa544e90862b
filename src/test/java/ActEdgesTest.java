import java.util.function.Supplier;

/** Promises 17 to 23 and an object's whole life: the sentences that name a boundary. */
public final class ActEdgesTest {
    private static final int NONE = AirIndex.NONE;
    private static final int REFUSED = -2;
    private static final int BY_NONE = -2;
    private static final String OFFICE = Texts.office(2, 3) + "series 0 0 1 2 3 4;";
    /** STATIONS, SUBSTANCES and HOURS of that. */
    private static final int[] COUNTS = {3, 2, 4};

    public static void main(String[] args) {
        keeps();
        keepsWrongOnes();
        touches();
        touchesAndCorrectsWindows();
        touchesWrongOnes();
        corrects();
        correctsWrongOnes();
        pass();
        smooth();
        window();
        windowCounts();
        undo();
        undoesEach();
        newText();
        calls512();
        Check.finish();
    }

    private static void keeps() {
        Check.sentence("The greatest READ (0 to 999) in the latest HOUR, in place of what is there, by which INDEX of a"
            + " STATION in it is below B number k (0 to 2), all else as it is (an INDEX there is none of is not below);"
            + " -2: by none.");
        String line = ";smooth 5;substance 1 1 0 1 999 500;station 0;series 0 0 ";
        String[] there = {"x", "0", "999"};
        for (String read : there) {
            AirIndex air = Check.told("bands 1 2 500" + line + read + ";");
            Check.due("keeps() by none", air.keeps(0, 0, 0), BY_NONE);
            Check.due("keeps() by 0 to 2", air.keeps(0, 0, 1), 2);
            Check.due("keeps() by all but 999", air.keeps(0, 0, 2), 998);
        }
        AirIndex low = Check.told("bands 1 2 500;smooth 5;substance 1 1 0 0 1 1 2 499;station 0;series 0 0 7 7;");
        Check.due("keeps() by 0 alone", low.keeps(0, 0, 0), 0);
        Check.due("keeps() by 0 and 1", low.keeps(0, 0, 1), 1);
        Check.due("keeps() by all", low.keeps(0, 0, 2), 999);
        AirIndex two = Check.told("bands 10 20 500;smooth 5;substance 2 2 0 0 500 500;substance 1 1 0 0 500 500;station 0;"
            + "series 0 0 9 x;series 0 1 x 10;");
        Check.due("keeps(): another SUBSTANCE is at B", two.keeps(0, 0, 0), BY_NONE);
        Check.due("keeps(): another SUBSTANCE is below B", two.keeps(0, 0, 1), 30);
        Check.due("keeps() of the one that is at B", two.keeps(0, 1, 0), 9);
        two.pass(1);
        // In the latest HOUR SUBSTANCE 0 would have one READ of two that it needs.
        Check.due("keeps(): there is no INDEX by it", two.keeps(0, 0, 2), BY_NONE);
        Check.due("keeps() of the one that needs one", two.keeps(0, 1, 0), 9);
        two.correct(0, 1, 2, 499);
        Check.due("keeps(): there is an INDEX by the other", two.keeps(0, 0, 2), 999);
        AirIndex first = Check.told(Texts.oneSeries(12, 2, "x"));
        Check.due("keeps() in HOUR 0, two needed", first.keeps(0, 0, 2), BY_NONE);
        for (int level = 1; level <= 999; level++) {
            Check.due("keeps() below a step at " + level, Check.told(Texts.step(level)).keeps(0, 0, 0), level - 1);
        }
        AirIndex last = new AirIndex();
        for (int times = 0; times < 5; times++) {
            last.pass(12);
        }
        Check.due("keeps() in HOUR 59", last.keeps(0, 0, 0), 49);
    }

    private static void keepsWrongOnes() {
        Check.sentence("NONE: no such ones, NOW is 0.");
        AirIndex air = Check.told(Texts.office(2, 3) + "series 2 1 5;");
        for (int station : Check.notBelow(3)) {
            Check.due("keeps(" + station + ", 0, 0)", air.keeps(station, 0, 0), NONE);
        }
        for (int substance : Check.notBelow(2)) {
            Check.due("keeps(0, " + substance + ", 0)", air.keeps(0, substance, 0), NONE);
        }
        for (int k : Check.notBelow(3)) {
            Check.due("keeps(0, 0, " + k + ")", air.keeps(0, 0, k), NONE);
        }
        Check.due("keeps(2, 1, 2) of the last ones", air.keeps(2, 1, 2), 2);
        AirIndex none = new AirIndex();
        Check.due("keeps() with NOW 0", none.keeps(0, 0, 0), NONE);
        none.pass(1);
        Check.due("keeps() with NOW 1", none.keeps(0, 0, 0), 49);
        none.undo();
        Check.due("keeps() with NOW 0 again", none.keeps(0, 0, 0), NONE);
    }

    private static void touches() {
        Check.sentence("HOURS (bits, from the HOUR corrected on: bit 0 that one) in which INDEX of the STATION would be"
            + " another (or be, or be none any more), were a READ so (as correct()).");
        AirIndex air = Check.told(Texts.oneSeries(1, 1, "5 x 0 500"));
        Check.due("touches(): another", air.touches(0, 0, 0, 6), 1);
        Check.due("touches(): would be", air.touches(0, 0, 1, 0), 1);
        Check.due("touches(): would be none any more", air.touches(0, 0, 0, NONE), 1);
        Check.due("touches(): an INDEX 0 would be none any more", air.touches(0, 0, 2, NONE), 1);
        Check.due("touches(): the same READ", air.touches(0, 0, 0, 5), 0);
        Check.due("touches(): missing as it is", air.touches(0, 0, 1, NONE), 0);
        Check.due("touches(): another READ, the same INDEX", air.touches(0, 0, 3, 999), 0);
        AirIndex two = Check.told("bands 1 2 3;smooth 5;substance 2 2 0 0 500 500;substance 1 1 0 0 500 500;station 0;"
            + "station 0;series 0 0 4 4 4;series 0 1 x 9 x;");
        Check.due("touches() but where another SUBSTANCE rules", two.touches(0, 0, 1, 8), 0b10);
        Check.due("touches() the next HOUR alone", two.touches(0, 0, 0, 99), 0b10);
        Check.due("touches() where the RULING one goes", two.touches(0, 1, 1, NONE), 0b1);
        Check.due("touches(): the RULING alone is another", two.touches(0, 1, 2, 4), 0);
        Check.due("touches() another STATION", two.touches(1, 1, 1, 4), 0b1);
    }

    /** A READ touches as many HOURS as the WINDOW has, and none behind the latest. */
    private static void touchesAndCorrectsWindows() {
        Check.sentence("in how many HOURS INDEX of the STATION is another for it.");
        AirIndex air = new AirIndex();
        for (int times = 0; times < 5; times++) {
            air.pass(12);
        }
        int[] hours = {0, 1, 24, 47, 48, 49, 58, 59};
        for (int window = 1; window <= 12; window++) {
            air.window(0, window, 1);
            for (int hour : hours) {
                int touched = Math.min(window, 60 - hour);
                String call = "(0, 0, " + hour + ", 7), WINDOW " + window;
                Check.due("touches" + call, air.touches(0, 0, hour, 7), (1 << touched) - 1);
                if (hour % 48 == 0 || hour == 59) {
                    Check.due("correct" + call, air.correct(0, 0, hour, 7), touched);
                    Check.due("correct() back", air.correct(0, 0, hour, NONE), touched);
                }
            }
        }
    }

    private static void corrects() {
        Check.sentence("A READ is 0 to 999, or missing (NONE)");
        AirIndex air = Check.told(Texts.oneSeries(1, 1, "5 6"));
        int[] taken = {0, 999, NONE, 1, 998};
        for (int value : taken) {
            Check.due("touches(0, 0, 1, " + value + ")", air.touches(0, 0, 1, value), 1);
            Check.due("correct(0, 0, 1, " + value + ")", air.correct(0, 0, 1, value), 1);
            Check.due("read() behind it", air.read(0, 0, 1), value);
            Check.due("READS in all behind it", air.now(3), value == NONE ? 1 : 2);
        }
    }

    private static void touchesWrongOnes() {
        Check.sentence("were a READ so (as correct()). NONE: no such ones.");
        AirIndex air = Check.told(OFFICE);
        Check.noSuchPlaces("touches()", COUNTS, NONE, (a, b, h) -> air.touches(a, b, h, 5));
        for (int value : Check.notBelow(1000)) {
            Check.due("touches(0, 0, 1, " + value + ")", air.touches(0, 0, 1, value), value == NONE ? 1 : NONE);
        }
        Check.due("touches() of the last ones", air.touches(2, 1, 3, 999), 1);
        Check.due("touches() with NOW 0", new AirIndex().touches(0, 0, 0, 5), NONE);
    }

    private static void correctsWrongOnes() {
        Check.sentence("-2: no such ones, another number.");
        AirIndex air = Check.told(OFFICE);
        Check.noSuchPlaces("correct()", COUNTS, REFUSED, (a, b, h) -> air.correct(a, b, h, 5));
        for (int value : Check.notBelow(1000)) {
            if (value != NONE) {
                Check.due("correct(0, 0, 1, " + value + ")", air.correct(0, 0, 1, value), REFUSED);
            }
        }
        Check.due("what can be undone", air.now(5), 0);
        Check.due("correct() of the last ones", air.correct(2, 1, 3, 999), 1);
        Check.due("correct() with NOW 0", new AirIndex().correct(0, 0, 0, 5), REFUSED);
    }

    private static void pass() {
        Check.sentence("So many HOURS more (1 to 12), all missing: NOW. NONE: another number, NOW would be above 60.");
        for (int now = 0; now <= 60; now++) {
            for (int hours = -1; hours <= 14; hours++) {
                AirIndex air = new AirIndex();
                for (int passed = 0; passed < now; passed += 12) {
                    air.pass(Math.min(12, now - passed));
                }
                boolean taken = hours >= 1 && hours <= 12 && now + hours <= 60;
                Check.due("pass(" + hours + ") at " + now, air.pass(hours), taken ? now + hours : NONE);
                Check.due("NOW behind it", air.now(0), taken ? now + hours : now);
                Check.due("the HOUR behind the latest", air.district(0, air.now(0), 3), NONE);
            }
        }
        AirIndex air = Check.told(Texts.oneSeries(12, 1, "999 ".repeat(24)));
        for (int hours : Check.notBelow(13)) {
            Check.due("pass(" + hours + ")", air.pass(hours), NONE);
        }
        Check.due("pass(12) behind 24 READS", air.pass(12), 36);
        Check.due("pass(12)", air.pass(12), 48);
        Check.due("pass(12)", air.pass(12), 60);
        for (int hour = 24; hour < 60; hour++) {
            Check.due("read(0, 0, " + hour + "), missing", air.read(0, 0, hour), NONE);
            Check.due("mean(0, 0, " + hour + ")", air.mean(0, 0, hour), hour < 35 ? 999 : NONE);
        }
        Check.due("READS in all", air.now(3), 24);
        Check.due("pass(1) at 60", air.pass(1), NONE);
    }

    private static void smooth() {
        Check.sentence("A is such (0 to 100): what it was. NONE: another number.");
        AirIndex air = new AirIndex();
        int was = 50;
        for (int share = 0; share <= 100; share++) {
            Check.due("smooth(" + share + ")", air.smooth(share), was);
            Check.due("A", air.now(4), share);
            was = share;
        }
        for (int share : Check.notBelow(101)) {
            Check.due("smooth(" + share + ")", air.smooth(share), NONE);
            Check.due("A behind it", air.now(4), 100);
        }
        Check.due("smooth(0) behind 100", air.smooth(0), 100);
        Check.due("smooth(0) behind 0", air.smooth(0), 0);
    }

    private static void window() {
        Check.sentence("WINDOW and NEED of a SUBSTANCE are such (1 to 12, NEED no more than WINDOW): true. False: no such"
            + " ones, not as told.");
        for (int substance = 0; substance <= 2; substance++) {
            AirIndex air = Check.told(Texts.office(3, 1));
            for (int window = 0; window <= 13; window++) {
                for (int need = 0; need <= 14; need++) {
                    boolean taken = window >= 1 && window <= 12 && need >= 1 && need <= window;
                    Check.due("window(" + substance + ", " + window + ", " + need + ")",
                        air.window(substance, window, need), taken);
                }
            }
        }
        AirIndex air = Check.told(Texts.office(2, 1));
        for (int substance : Check.notBelow(2)) {
            Check.due("window(" + substance + ", 1, 1)", air.window(substance, 1, 1), false);
        }
        for (int number : Check.notBelow(13)) {
            Check.due("window(0, " + number + ", 1)", air.window(0, number, 1), false);
            Check.due("window(0, 12, " + number + ")", air.window(0, 12, number), false);
            Check.due("window(0, " + number + ", " + number + ")", air.window(0, number, number), false);
        }
        Check.due("what can be undone", air.now(5), 0);
    }

    /** A WINDOW and a NEED that were taken count from then on, for their SUBSTANCE alone. */
    private static void windowCounts() {
        Check.sentence("WINDOW and NEED of a SUBSTANCE are such");
        String line = "substance 1 1 0 0 500 500;";
        AirIndex air = Check.told("bands 1 2 3;smooth 5;" + line + line + "station 0;"
            + "series 0 0 0 1 2 3 4 5 6 7 8 9 10 11 12;series 0 1 0 1 2 3 4 5 6 7 8 9 10 11 12;");
        for (int window = 1; window <= 12; window++) {
            air.window(1, window, window);
            Check.due("mean() of " + window + " HOURS", air.mean(0, 1, 12), (12 + 13 - window) / 2);
            Check.due("mean() in the first HOUR with so many", air.mean(0, 1, window - 1), (window - 1) / 2);
            Check.due("mean() one HOUR ahead of it", air.mean(0, 1, window - 2), NONE);
            Check.due("mean() of the other SUBSTANCE", air.mean(0, 0, 12), 12);
            air.window(1, window, 1);
            Check.due("mean() in HOUR 0, one needed", air.mean(0, 1, 0), 0);
        }
    }

    private static void undo() {
        Check.sentence("how many more can be (10 at most are kept); NONE: none is.");
        for (int acts = 0; acts <= 23; acts++) {
            AirIndex air = new AirIndex();
            for (int act = 1; act <= acts; act++) {
                air.smooth(act);
                Check.due("what can be undone behind " + act, air.now(5), Math.min(10, act));
            }
            int kept = Math.min(10, acts);
            for (int left = kept - 1; left >= 0; left--) {
                Check.due("undo() of " + acts, air.undo(), left);
                Check.due("what can be undone", air.now(5), left);
                Check.due("A", air.now(4), acts - kept + left == 0 ? 50 : acts - kept + left);
            }
            int stays = air.now(4);
            Check.due("undo() of none", air.undo(), NONE);
            Check.due("undo() of none once more", air.undo(), NONE);
            Check.due("A behind it", air.now(4), stays);
            air.smooth(77);
            Check.due("what can be undone behind one act more", air.now(5), 1);
            Check.due("undo() of it", air.undo(), 0);
            Check.due("A behind that", air.now(4), stays);
        }
    }

    /** Each act, done and undone, leaves all as it was; so do ten of all kinds, the last undone first. */
    private static void undoesEach() {
        Check.sentence("The latest correct(), pass(), smooth(), window() that was done is undone");
        String text = "bands 5 10 20;smooth 30;substance 3 2 0 0 500 500;substance 1 1 2 0 30 40;station 1;station 0;"
            + "series 0 0 1 2 x 4;series 1 1 9 9;";
        Supplier<AirIndex> office = () -> Check.told(text);
        Probe.same("correct() and undo()", office, Probe.with(office, air -> {
            air.correct(1, 1, 3, 50);
            Check.due("undo()", air.undo(), 0);
        }));
        Probe.same("correct() to missing and undo()", office, Probe.with(office, air -> {
            air.correct(0, 0, 0, NONE);
            Check.due("undo()", air.undo(), 0);
        }));
        Probe.same("pass() and undo()", office, Probe.with(office, air -> {
            air.pass(12);
            Check.due("undo()", air.undo(), 0);
        }));
        Probe.same("smooth() and undo()", office, Probe.with(office, air -> {
            air.smooth(100);
            Check.due("undo()", air.undo(), 0);
        }));
        Probe.same("window() and undo()", office, Probe.with(office, air -> {
            air.window(0, 12, 1);
            Check.due("undo()", air.undo(), 0);
        }));
        Probe.same("acts that change nothing and undo()", office, Probe.with(office, air -> {
            air.correct(0, 0, 0, 1);
            air.smooth(30);
            air.window(0, 3, 2);
            Check.due("what can be undone", air.now(5), 3);
            for (int left = 2; left >= 0; left--) {
                Check.due("undo()", air.undo(), left);
            }
        }));
        Probe.same("ten acts and undo()", office, Probe.with(office, air -> {
            tenActs(air);
            for (int left = 9; left >= 0; left--) {
                Check.due("undo()", air.undo(), left);
            }
        }));
        // An eleventh is not kept: behind ten undo() the first act stays, and nothing more can be undone.
        Supplier<AirIndex> firstDone = () -> Check.told(text + "series 1 0 x x x 8;");
        Probe.same("an act, ten acts and undo()", firstDone, Probe.with(office, air -> {
            air.correct(1, 0, 3, 8);
            tenActs(air);
            for (int left = 9; left >= 0; left--) {
                Check.due("undo()", air.undo(), left);
            }
        }));
    }

    private static void tenActs(AirIndex air) {
        air.correct(0, 0, 3, NONE);
        air.pass(1);
        air.correct(1, 1, 4, 0);
        air.window(1, 12, 12);
        air.smooth(0);
        air.correct(1, 1, 4, 999);
        air.window(1, 2, 1);
        air.pass(12);
        air.correct(0, 1, 16, 77);
        air.smooth(100);
        Check.due("what can be undone", air.now(5), 10);
    }

    private static void newText() {
        Check.sentence("A new TEXT: nothing can be undone.");
        String text = Texts.office(2, 2) + "series 1 0 5 x 7;";
        Probe.same("ten acts and a new TEXT", () -> Check.told(text), () -> {
            AirIndex air = new AirIndex();
            air.pass(12);
            for (int value = 0; value < 10; value++) {
                air.correct(0, 0, value, value);
            }
            Check.due("what can be undone ahead of it", air.now(5), 10);
            Check.due("LINES", Check.tell(air, text), 7);
            return air;
        });
        AirIndex air = Check.told(text);
        Check.due("undo()", air.undo(), NONE);
        air.smooth(9);
        Check.due("the same TEXT again", Check.tell(air, text), 7);
        Check.due("what can be undone", air.now(5), 0);
        Check.due("undo() behind it", air.undo(), NONE);
        Check.due("A", air.now(4), 5);
    }

    /** The 512th call answers as the first did, whatever calls were ahead of it. */
    private static void calls512() {
        Check.sentence("An object is used for at most 512 calls after it has been made");
        AirIndex air = new AirIndex();
        air.pass(1);
        for (int call = 2; call <= 511; call++) {
            Check.due("correct() as call " + call, air.correct(0, 0, 0, call % 99), 1);
        }
        Check.due("undo() as call 512", air.undo(), 9);
        AirIndex texts = new AirIndex();
        for (int call = 1; call <= 511; call += 7) {
            Check.due("text() as call " + (call + 6), Check.tell(texts, Texts.filledTo(100, Texts.PLAIN)), 4);
        }
        Check.due("pass(12) as call 512", texts.pass(12), 12);
        AirIndex faults = new AirIndex();
        for (int call = 1; call <= 511; call++) {
            Check.due("text() as call " + call, faults.text(), -1);
        }
        Check.due("fault() as call 512", faults.fault(), 1);
    }
}
