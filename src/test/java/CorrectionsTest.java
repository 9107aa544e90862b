/** Promises 17 to 19: keeps, touches and correct. */
public final class CorrectionsTest {
    private static final int NONE = AirIndex.NONE;
    private static final int BY_NONE = -2;
    /** SUBSTANCE 0 has a window of three HOURS and needs two, SUBSTANCE 1 one. */
    private static final String HEAD = "bands 20 50 150;smooth 50;substance 3 2 0 0 100 100;substance 1 1 10 0 20 100;"
        + "station 0;station 0;";

    public static void main(String[] args) {
        keepsBelow();
        keepsEdges();
        keepsWrongOnes();
        touchedHours();
        corrects();
        correctsWrongOnes();
        longWindow();
        Check.finish();
    }

    private static void keepsBelow() {
        AirIndex air = Check.told(HEAD + "series 0 0 9 x 30 5;series 0 1 x x x 13;series 1 0 9 x x x;");
        // (x as the greater of 30 and the READ, 30, READ) by 3 below 50; SUBSTANCE 1 is at 30.
        Check.due("keeps(0, 0, 1)", air.keeps(0, 0, 1), 59);
        Check.due("keeps(0, 0, 0): SUBSTANCE 1 is above", air.keeps(0, 0, 0), BY_NONE);
        Check.due("keeps(0, 0, 2): the line ends at 100", air.keeps(0, 0, 2), 999);
        Check.due("keeps(0, 1, 0): SUBSTANCE 0 is above", air.keeps(0, 1, 0), BY_NONE);
        Check.due("keeps(0, 1, 1)", air.keeps(0, 1, 1), 14);
        Check.due("keeps(0, 1, 2)", air.keeps(0, 1, 2), 999);
        Check.due("keeps(1, 0, 0): no INDEX by one READ", air.keeps(1, 0, 0), BY_NONE);
        Check.due("keeps(1, 1, 0)", air.keeps(1, 1, 0), 11);
        Check.due("read(0, 0, 3) behind keeps()", air.read(0, 0, 3), 5);
        Check.due("read(1, 1, 3) behind keeps()", air.read(1, 1, 3), NONE);
        Check.due("READS in all behind keeps()", air.now(3), 5);
        Check.due("what can be undone behind keeps()", air.now(5), 0);
    }

    private static void keepsEdges() {
        AirIndex first = Check.told("bands 1 2 500;smooth 0;substance 1 1 0 1 999 500;station 0;series 0 0 x;");
        Check.due("keeps() by none", first.keeps(0, 0, 0), BY_NONE);
        Check.due("keeps() by 0 to 2", first.keeps(0, 0, 1), 2);
        Check.due("keeps() by all but 999", first.keeps(0, 0, 2), 998);
        AirIndex zero = Check.told("bands 1 2 500;smooth 0;substance 1 1 0 0 1 1;station 0;series 0 0 x;");
        Check.due("keeps() by 0 alone", zero.keeps(0, 0, 0), 0);
        // SUBSTANCE 0 has no SUB by one READ of two that it needs, SUBSTANCE 1 alone tells.
        AirIndex other = Check.told(HEAD + "series 0 0 x x;series 0 1 5 10;");
        Check.due("keeps() that hangs on another SUBSTANCE", other.keeps(0, 0, 0), 999);
        other.pass(1);
        Check.due("keeps() in the latest HOUR", other.keeps(0, 0, 0), BY_NONE);
        Check.due("keeps() of SUBSTANCE 1 in it", other.keeps(0, 1, 0), 11);
    }

    private static void keepsWrongOnes() {
        AirIndex air = Check.told(HEAD + "series 0 0 1;");
        int[] far = {-1, 3, 1000, Integer.MIN_VALUE, Integer.MAX_VALUE};
        for (int wrong : far) {
            Check.due("keeps(" + wrong + ", 1, 0)", air.keeps(wrong, 1, 0), NONE);
            Check.due("keeps(0, " + wrong + ", 0)", air.keeps(0, wrong, 0), NONE);
            Check.due("keeps(0, 1, " + wrong + ")", air.keeps(0, 1, wrong), NONE);
        }
        Check.due("keeps(2, 1, 0)", air.keeps(2, 1, 0), NONE);
        Check.due("keeps(0, 2, 0)", air.keeps(0, 2, 0), NONE);
        Check.due("keeps() with NOW 0", Check.told(HEAD).keeps(0, 0, 0), NONE);
    }

    private static void touchedHours() {
        AirIndex air = Check.told(HEAD + "series 0 0 30 x 30 30 30 x;series 0 1 x x x x 30 x;");
        // INDEX HOUR by HOUR: none, none, 30, 30, 100 (of SUBSTANCE 1), 30.
        Check.due("touches() by what is there", air.touches(0, 0, 2, 30), 0);
        Check.due("touches() a missing one by missing", air.touches(0, 0, 1, NONE), 0);
        Check.due("touches() HOURS 1 to 3", air.touches(0, 0, 1, 0), 0b111);
        Check.due("touches() where there comes to be an INDEX", air.touches(0, 0, 1, 30), 0b1);
        Check.due("touches() where there is no INDEX any more", air.touches(0, 0, 2, NONE), 0b11);
        Check.due("touches() but where SUBSTANCE 1 rules", air.touches(0, 0, 3, 99), 0b101);
        Check.due("touches() none: a like SUB comes", air.touches(0, 1, 2, 13), 0);
        Check.due("touches() none: the MEAN is cut", air.touches(0, 0, 5, 31), 0);
        Check.due("touches() the latest HOUR", air.touches(0, 0, 5, 33), 0b1);
        Check.due("touches() the next HOUR alone", air.touches(0, 0, 4, 60), 0b10);
        Check.due("touches() SUBSTANCE 1", air.touches(0, 1, 4, 10), 0b1);
        Check.due("touches() another STATION", air.touches(1, 1, 0, 0), 0b1);
        Check.due("read() behind touches()", air.read(0, 0, 2), 30);
        Check.due("READS in all behind touches()", air.now(3), 5);
        Check.due("what can be undone behind touches()", air.now(5), 0);
        wrongTouches(air);
        air.correct(0, 1, 2, 13);
        Check.due("touches() no HOUR in which the RULING alone is another", air.touches(0, 0, 2, NONE), 0b10);
    }

    private static void wrongTouches(AirIndex air) {
        int[] far = {-1, 6, 1000, Integer.MIN_VALUE, Integer.MAX_VALUE};
        for (int wrong : far) {
            Check.due("touches(" + wrong + ", 0, 1, 0)", air.touches(wrong, 0, 1, 0), NONE);
            Check.due("touches(0, " + wrong + ", 1, 0)", air.touches(0, wrong, 1, 0), NONE);
            Check.due("touches(0, 0, " + wrong + ", 0)", air.touches(0, 0, wrong, 0), NONE);
        }
        int[] noReads = {-2, 1000, Integer.MIN_VALUE, Integer.MAX_VALUE};
        for (int value : noReads) {
            Check.due("touches(0, 0, 1, " + value + ")", air.touches(0, 0, 1, value), NONE);
        }
    }

    private static void corrects() {
        AirIndex air = Check.told(HEAD + "series 0 0 30 x 30 30 30 x;series 0 1 x x x x 30 x;");
        Check.due("correct() HOURS 1 to 3", air.correct(0, 0, 1, 0), 3);
        Check.due("read()", air.read(0, 0, 1), 0);
        Check.due("mean()", air.mean(0, 0, 3), 20);
        Check.due("correct() by what is there", air.correct(0, 0, 1, 0), 0);
        Check.due("what can be undone", air.now(5), 2);
        Check.due("correct() to missing", air.correct(0, 0, 1, NONE), 3);
        Check.due("read()", air.read(0, 0, 1), NONE);
        Check.due("correct() to 999", air.correct(1, 1, 5, 999), 1);
        Check.due("read()", air.read(1, 1, 5), 999);
        Check.due("index()", air.index(1, 5, 0), 100);
        Check.due("correct() to no INDEX any more", air.correct(1, 1, 5, NONE), 1);
        Check.due("index()", air.index(1, 5, 0), NONE);
    }

    private static void correctsWrongOnes() {
        AirIndex air = Check.told(HEAD + "series 0 0 1 2;");
        int[] far = {-1, 2, 1000, Integer.MIN_VALUE, Integer.MAX_VALUE};
        for (int wrong : far) {
            Check.due("correct(" + wrong + ", 0, 0, 5)", air.correct(wrong, 0, 0, 5), -2);
            Check.due("correct(0, " + wrong + ", 0, 5)", air.correct(0, wrong, 0, 5), -2);
            Check.due("correct(0, 0, " + wrong + ", 5)", air.correct(0, 0, wrong, 5), -2);
        }
        int[] noReads = {-2, 1000, Integer.MIN_VALUE, Integer.MAX_VALUE};
        for (int value : noReads) {
            Check.due("correct(0, 0, 0, " + value + ")", air.correct(0, 0, 0, value), -2);
        }
        Check.due("read() behind what was refused", air.read(0, 0, 0), 1);
        Check.due("what can be undone behind it", air.now(5), 0);
    }

    /** A window of twelve HOURS: a READ touches twelve, fewer near the latest HOUR. */
    private static void longWindow() {
        AirIndex air = Check.told("bands 1 2 3;smooth 0;substance 12 1 0 0 999 500;station 0;series 0 0 0;");
        for (int i = 0; i < 4; i++) {
            air.pass(12);
        }
        Check.due("touches() twelve HOURS", air.touches(0, 0, 20, 999), 0xFFF);
        Check.due("correct() twelve HOURS", air.correct(0, 0, 20, 999), 12);
        Check.due("touches() near the latest HOUR", air.touches(0, 0, 45, 7), 0b1111);
        Check.due("correct() near the latest HOUR", air.correct(0, 0, 45, 7), 4);
        Check.due("touches() behind a window of two", air.window(0, 2, 1), true);
        Check.due("touches() two HOURS", air.touches(0, 0, 30, 500), 0b11);
    }
}
