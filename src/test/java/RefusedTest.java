import java.util.List;
import java.util.function.Supplier;

/** "A refused call, one that throws changes nothing.": each call of the face, refused in a new, a busy and a full object. */
public final class RefusedTest {
    private static final int NONE = AirIndex.NONE;
    private static final int REFUSED = -2;
    private static final int FALSE = 0;
    private static final String OFFICE = "bands 20 40 80;smooth 30;substance 4 2 0 0 100 50 900 500;"
        + "substance 1 1 10 0 20 100;station 1;station 0;station 1;series 0 0 10 x 30 40 x;series 1 1 12 13 x;"
        + "series 2 0 x x 90;series 2 1 15;";

    /** A call that answers a number; true counts 1, false 0. */
    private interface Call {
        int on(AirIndex air);
    }

    private final String object;
    private final Supplier<AirIndex> made;
    private final List<String> plain;
    private final int substances;
    private final int stations;
    private final int hours;
    private final int bytes;

    private RefusedTest(String object, Supplier<AirIndex> made) {
        this.object = object;
        this.made = made;
        plain = Probe.answers(made);
        AirIndex air = made.get();
        hours = air.now(0);
        substances = air.now(1);
        stations = air.now(2);
        bytes = air.now(6);
    }

    public static void main(String[] args) {
        Check.sentence("A refused call, one that throws changes nothing.");
        RefusedTest[] objects = {new RefusedTest("a new object", AirIndex::new),
            new RefusedTest("a busy object", RefusedTest::busy), new RefusedTest("a full object", RefusedTest::full)};
        for (RefusedTest object : objects) {
            object.tapes();
            object.places();
            object.scales();
            object.questions();
            object.corrections();
            object.acts();
        }
        objects[0].changesNothing("undo()", NONE, air -> air.undo());
        objects[2].changesNothing("feed()", NONE, air -> air.feed(0x78203B20, -1, 0, 1, 2));
        objects[2].changesNothing("pass(1)", NONE, air -> air.pass(1));
        objects[1].answers();
        objects[2].answers();
        Check.sentence("-1 less the place of a FAULT: all stays.");
        faults();
        Check.finish();
    }

    private static AirIndex busy() {
        AirIndex air = Check.told(OFFICE);
        air.pass(3);
        air.correct(2, 1, 7, 17);
        air.window(0, 3, 1);
        air.smooth(77);
        air.correct(0, 0, 1, 0);
        Check.feed(air, Texts.PLAIN + "series 0 0 7 x 8;");
        return air;
    }

    private static AirIndex full() {
        AirIndex air = Check.told(Texts.office(3, 4) + "series 3 2 5" + " 7".repeat(23) + ";series 0 0 9 x 3;");
        for (int passed = 0; passed < 36; passed += 12) {
            air.pass(12);
        }
        for (int value = 1; value <= 9; value++) {
            air.correct(value % 4, value % 3, 60 - value, value);
        }
        for (int fed = 0; fed < 640; fed += 20) {
            air.feed(0x20202020, 0x20202020, 0x20202020, 0x20202020, 0x20202020);
        }
        return air;
    }

    /** A call that has that answer, and behind it all is as without it. */
    private void changesNothing(String name, int due, Call call) {
        String what = name + " on " + object;
        Supplier<AirIndex> behind = () -> {
            AirIndex air = made.get();
            Check.due(what, call.on(air), due);
            return air;
        };
        Probe.compare(what, plain, Probe.answers(behind));
    }

    private void tapes() {
        int[] refused = {-1, bytes + 1, Integer.MIN_VALUE, Integer.MAX_VALUE};
        for (int n : refused) {
            changesNothing("end(" + n + ")", FALSE, air -> air.end(n) ? 1 : 0);
        }
    }

    private void places() {
        int[][] wrong = {{-1, 0, 0}, {stations, 0, 0}, {0, -1, 0}, {0, substances, 0}, {0, 0, -1}, {0, 0, hours},
            {Integer.MIN_VALUE, Integer.MIN_VALUE, Integer.MIN_VALUE},
            {Integer.MAX_VALUE, Integer.MAX_VALUE, Integer.MAX_VALUE}};
        for (int[] row : wrong) {
            int a = row[0];
            int b = row[1];
            int h = row[2];
            String place = "(" + a + ", " + b + ", " + h + ")";
            changesNothing("read" + place, NONE, air -> air.read(a, b, h));
            changesNothing("mean" + place, NONE, air -> air.mean(a, b, h));
            changesNothing("sub" + place, NONE, air -> air.sub(a, b, h));
            changesNothing("forecast" + place, NONE, air -> air.forecast(a, b, h));
            changesNothing("touches 5" + place, NONE, air -> air.touches(a, b, h, 5));
            changesNothing("correct 5" + place, REFUSED, air -> air.correct(a, b, h, 5));
        }
    }

    private void scales() {
        int[][] wrong = {{-1, 0}, {substances, 0}, {0, -1}, {0, 1000}, {Integer.MAX_VALUE, Integer.MIN_VALUE}};
        for (int[] row : wrong) {
            changesNothing("scale(" + row[0] + ", " + row[1] + ")", NONE, air -> air.scale(row[0], row[1]));
            changesNothing("back(" + row[0] + ", " + row[1] + ")", NONE, air -> air.back(row[0], row[1]));
        }
        changesNothing("back(0, 501)", NONE, air -> air.back(0, 501));
    }

    private void questions() {
        int[] others = {-1, 61, Integer.MIN_VALUE, Integer.MAX_VALUE};
        for (int other : others) {
            changesNothing("now(" + other + ")", NONE, air -> air.now(other));
            changesNothing("index(0, 0, " + other + ")", NONE, air -> air.index(0, 0, other));
            changesNothing("index(" + other + ", 0, 0)", NONE, air -> air.index(other, 0, 0));
            changesNothing("district(0, 0, " + other + ")", NONE, air -> air.district(0, 0, other));
            changesNothing("district(" + other + ", 0, 0)", NONE, air -> air.district(other, 0, 0));
            changesNothing("lasts(" + other + ", 0, 1)", NONE, air -> air.lasts(other, 0, 1));
            changesNothing("lasts(0, 0, " + other + ")", NONE, air -> air.lasts(0, 0, other));
            changesNothing("worst(" + other + ", 0, 0)", NONE, air -> air.worst(other, 0, 0));
            changesNothing("worst(0, 0, " + other + ")", NONE, air -> air.worst(0, 0, other));
            changesNothing("worst(0, " + other + ", 0)", NONE, air -> air.worst(0, other, 0));
            changesNothing("keeps(0, 0, " + other + ")", NONE, air -> air.keeps(0, 0, other));
            changesNothing("keeps(" + other + ", 0, 0)", NONE, air -> air.keeps(other, 0, 0));
        }
        changesNothing("now(7)", NONE, air -> air.now(7));
        changesNothing("index() of another what", NONE, air -> air.index(0, 0, 3));
        changesNothing("district() of another what", NONE, air -> air.district(0, 0, 4));
        changesNothing("district() of no such DISTRICT", NONE, air -> air.district(3, 0, 3));
        changesNothing("lasts() of BAND 0", NONE, air -> air.lasts(0, 0, 0));
        changesNothing("lasts() of BAND 4", NONE, air -> air.lasts(0, 0, 4));
        changesNothing("index() behind NOW", NONE, air -> air.index(0, hours, 0));
        changesNothing("district() behind NOW", NONE, air -> air.district(0, hours, 3));
        changesNothing("lasts() behind NOW", NONE, air -> air.lasts(0, hours, 1));
        changesNothing("worst() behind NOW", NONE, air -> air.worst(0, 0, hours));
        changesNothing("keeps() of no such SUBSTANCE", NONE, air -> air.keeps(0, substances, 0));
        changesNothing("keeps() of no such B", NONE, air -> air.keeps(0, 0, 3));
    }

    private void corrections() {
        int[] wrong = {-2, 1000, Integer.MIN_VALUE, Integer.MAX_VALUE};
        for (int value : wrong) {
            changesNothing("touches(0, 0, 0, " + value + ")", NONE, air -> air.touches(0, 0, 0, value));
            changesNothing("correct(0, 0, 0, " + value + ")", REFUSED, air -> air.correct(0, 0, 0, value));
        }
    }

    private void acts() {
        int[] noHours = {-1, 0, 13, Integer.MIN_VALUE, Integer.MAX_VALUE};
        for (int number : noHours) {
            changesNothing("pass(" + number + ")", NONE, air -> air.pass(number));
        }
        int[] noShares = {-1, 101, Integer.MIN_VALUE, Integer.MAX_VALUE};
        for (int share : noShares) {
            changesNothing("smooth(" + share + ")", NONE, air -> air.smooth(share));
        }
        int[][] noWindows = {{-1, 2, 1}, {substances, 2, 1}, {0, 0, 0}, {0, 0, 1}, {0, 13, 1}, {0, 12, 13}, {0, 12, 0},
            {0, 5, 6}, {0, 5, -1}, {0, Integer.MAX_VALUE, Integer.MAX_VALUE}, {0, Integer.MIN_VALUE, Integer.MIN_VALUE}};
        for (int[] row : noWindows) {
            changesNothing("window(" + row[0] + ", " + row[1] + ", " + row[2] + ")", FALSE,
                air -> air.window(row[0], row[1], row[2]) ? 1 : 0);
        }
    }

    /** Calls that ask alone: they are not refused, and change nothing either. */
    private void answers() {
        AirIndex asked = made.get();
        int latest = hours - 1;
        changesNothing("read()", asked.read(0, 0, latest), air -> air.read(0, 0, latest));
        changesNothing("mean()", asked.mean(0, 0, latest), air -> air.mean(0, 0, latest));
        changesNothing("scale()", asked.scale(0, 50), air -> air.scale(0, 50));
        changesNothing("back()", asked.back(0, 5), air -> air.back(0, 5));
        changesNothing("sub()", asked.sub(0, 0, latest), air -> air.sub(0, 0, latest));
        changesNothing("index()", asked.index(0, latest, 1), air -> air.index(0, latest, 1));
        changesNothing("district()", asked.district(0, latest, 1), air -> air.district(0, latest, 1));
        changesNothing("lasts()", asked.lasts(0, latest, 1), air -> air.lasts(0, latest, 1));
        changesNothing("worst()", asked.worst(0, 0, latest), air -> air.worst(0, 0, latest));
        changesNothing("forecast()", asked.forecast(0, 0, latest), air -> air.forecast(0, 0, latest));
        changesNothing("fault()", asked.fault(), air -> air.fault());
        for (int station = 0; station < stations; station++) {
            int a = station;
            for (int substance = 0; substance < substances; substance++) {
                int b = substance;
                changesNothing("keeps()", asked.keeps(a, b, 1), air -> air.keeps(a, b, 1));
                changesNothing("touches()", asked.touches(a, b, 0, NONE), air -> air.touches(a, b, 0, NONE));
                changesNothing("touches()", asked.touches(a, b, 1, 999), air -> air.touches(a, b, 1, 999));
            }
        }
    }

    /** Texts with a FAULT, near their beginning and near their end, behind an earlier FAULT of the same kind. */
    private static void faults() {
        String long1 = Texts.office(3, 4) + "series 0 0 500 500 500;series 3 2 1;";
        String[][] texts = {
            {"", "?", "bands 1", "bands 100 200 300;smooth", "bands 100 200 300;smooth 99;?", Texts.office(3, 0),
                Texts.office(3, 4) + "?", long1 + "?", long1 + "series", long1 + "series 1 1 5 6 7 8",
                Texts.filledTo(640, long1)},
            {"bands 0", "bands 100 200 200", "bands 100 200 300;smooth 101", Texts.HEAD + "substance 12 13",
                Texts.HEAD + "substance 1 1 0 0 0", Texts.office(3, 3) + "station 3;", long1 + "series 4 0 5;",
                long1 + "series 3 2 5;"},
            {Texts.office(3, 0) + "substance", Texts.office(3, 4) + "station 0;", long1 + "series 1 1" + " 5".repeat(25),
                Texts.HEAD + "substance 12 12 0 0 1 1 2 2 3 3 4 4 5 5;"}};
        String[] first = {"bands", "bands 0 2 3;", Texts.office(1, 5)};
        for (int kind = 1; kind <= 3; kind++) {
            String earlier = first[kind - 1];
            Supplier<AirIndex> made = () -> faulted(earlier);
            List<String> plain = Probe.answers(made);
            for (String text : texts[kind - 1]) {
                int due = kind;
                Supplier<AirIndex> behind = Probe.with(made, air -> {
                    Check.due("a FAULT: text() of " + text, Check.tell(air, text) < 0, true);
                    Check.due("fault() of " + text, air.fault(), due);
                });
                Probe.compare("text() of " + text, plain, Probe.answers(behind));
                // Nor is anything of it left in the TEXT that comes next.
                Probe.same(text + " and a TEXT behind it", () -> Check.told(OFFICE), Probe.with(behind, air ->
                    Check.due("LINES", Check.tell(air, OFFICE), 11)));
            }
        }
    }

    private static AirIndex faulted(String text) {
        AirIndex air = busy();
        air.end(0);
        Check.due("an earlier FAULT", Check.tell(air, text) < 0, true);
        return air;
    }
}
