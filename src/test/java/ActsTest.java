/** Promises 20 to 23: pass, smooth, window and undo. */
public final class ActsTest {
    private static final int NONE = AirIndex.NONE;
    private static final int[] FAR = {-1, 1000, Integer.MIN_VALUE, Integer.MAX_VALUE};

    public static void main(String[] args) {
        passes();
        smooths();
        windows();
        undoes();
        undoesElsewhere();
        tenAreKept();
        refusedActs();
        Check.finish();
    }

    private static void passes() {
        AirIndex air = new AirIndex();
        Check.due("pass(1)", air.pass(1), 1);
        Check.due("pass(12)", air.pass(12), 13);
        Check.due("pass(0)", air.pass(0), NONE);
        Check.due("pass(13)", air.pass(13), NONE);
        for (int hours : FAR) {
            Check.due("pass(" + hours + ")", air.pass(hours), NONE);
        }
        Check.due("NOW", air.now(0), 13);
        for (int due = 25; due <= 49; due += 12) {
            Check.due("pass(12)", air.pass(12), due);
        }
        Check.due("pass(12) to 61", air.pass(12), NONE);
        Check.due("NOW", air.now(0), 49);
        Check.due("pass(11) to 60", air.pass(11), 60);
        Check.due("pass(1) to 61", air.pass(1), NONE);
        for (int hour = 0; hour < 60; hour++) {
            Check.due("read(0, 0, " + hour + ")", air.read(0, 0, hour), NONE);
        }
        Check.due("correct() in the last HOUR", air.correct(0, 0, 59, 5), 1);
        Check.due("index() in the last HOUR", air.index(0, 59, 0), 5);
        Check.due("read() behind the last HOUR", air.read(0, 0, 60), NONE);
        AirIndex told = Check.told("bands 1 2 3;smooth 0;substance 2 1 0 0 9 9;station 0;series 0 0 5;");
        Check.due("pass(2)", told.pass(2), 3);
        Check.due("mean() in a missing HOUR", told.mean(0, 0, 1), 5);
        Check.due("mean() in the next one", told.mean(0, 0, 2), NONE);
    }

    private static void smooths() {
        AirIndex air = new AirIndex();
        Check.due("smooth(0)", air.smooth(0), 50);
        Check.due("now(4)", air.now(4), 0);
        Check.due("smooth(100)", air.smooth(100), 0);
        Check.due("smooth(100) again", air.smooth(100), 100);
        Check.due("smooth(101)", air.smooth(101), NONE);
        for (int share : FAR) {
            Check.due("smooth(" + share + ")", air.smooth(share), NONE);
        }
        Check.due("now(4)", air.now(4), 100);
        Check.due("what can be undone", air.now(5), 3);
    }

    private static void windows() {
        AirIndex air = Check.told("bands 1 2 3;smooth 0;substance 1 1 0 0 9 9;substance 1 1 0 0 9 9;station 0;"
            + "series 0 0 2 4 6;series 0 1 2 4 6;");
        Check.due("window(0, 2, 1)", air.window(0, 2, 1), true);
        Check.due("mean(0, 0, 2)", air.mean(0, 0, 2), 5);
        Check.due("mean(0, 0, 0)", air.mean(0, 0, 0), 2);
        Check.due("mean(0, 1, 2)", air.mean(0, 1, 2), 6);
        Check.due("window(0, 2, 2)", air.window(0, 2, 2), true);
        Check.due("mean(0, 0, 0) by a NEED of 2", air.mean(0, 0, 0), NONE);
        Check.due("window(1, 12, 3)", air.window(1, 12, 3), true);
        Check.due("mean(0, 1, 2)", air.mean(0, 1, 2), 4);
        int[][] refused = {{0, 0, 0}, {0, 0, 1}, {0, 13, 1}, {0, 13, 13}, {0, 5, 6}, {0, 12, 13}, {0, 5, 0}, {0, 5, -1},
            {2, 1, 1}, {3, 1, 1}, {-1, 1, 1}, {0, Integer.MAX_VALUE, 1}, {0, Integer.MIN_VALUE, Integer.MIN_VALUE},
            {Integer.MAX_VALUE, 1, 1}, {Integer.MIN_VALUE, 1, 1}, {0, 5, Integer.MAX_VALUE}};
        for (int[] row : refused) {
            Check.due("window(" + row[0] + ", " + row[1] + ", " + row[2] + ")", air.window(row[0], row[1], row[2]), false);
        }
        Check.due("mean(0, 0, 2) behind what was refused", air.mean(0, 0, 2), 5);
        Check.due("what can be undone", air.now(5), 3);
        Check.due("window(0, 12, 12)", air.window(0, 12, 12), true);
        Check.due("mean(0, 0, 2)", air.mean(0, 0, 2), NONE);
        Check.due("undo()", air.undo(), 3);
        Check.due("mean(0, 0, 2)", air.mean(0, 0, 2), 5);
        Check.due("undo()", air.undo(), 2);
        Check.due("mean(0, 1, 2)", air.mean(0, 1, 2), 6);
        Check.due("undo()", air.undo(), 1);
        Check.due("mean(0, 0, 0) by a NEED of 1", air.mean(0, 0, 0), 2);
        Check.due("undo()", air.undo(), 0);
        Check.due("mean(0, 0, 2)", air.mean(0, 0, 2), 6);
    }

    private static void undoes() {
        AirIndex air = new AirIndex();
        Check.due("undo() of a new object", air.undo(), NONE);
        air.pass(2);
        air.correct(0, 0, 1, 30);
        air.correct(0, 0, 1, 40);
        air.smooth(9);
        air.pass(3);
        air.correct(0, 0, 4, 8);
        Check.due("undo() a correct() of a missing one", air.undo(), 5);
        Check.due("read(0, 0, 4)", air.read(0, 0, 4), NONE);
        Check.due("undo() a pass()", air.undo(), 4);
        Check.due("NOW", air.now(0), 2);
        Check.due("pass(3) anew", air.pass(3), 5);
        Check.due("read(0, 0, 4)", air.read(0, 0, 4), NONE);
        Check.due("undo() that", air.undo(), 4);
        Check.due("undo() a smooth()", air.undo(), 3);
        Check.due("A", air.now(4), 50);
        Check.due("undo() a correct()", air.undo(), 2);
        Check.due("read(0, 0, 1)", air.read(0, 0, 1), 30);
        Check.due("undo() a correct()", air.undo(), 1);
        Check.due("read(0, 0, 1)", air.read(0, 0, 1), NONE);
        Check.due("undo() the first pass()", air.undo(), 0);
        Check.due("NOW", air.now(0), 0);
        Check.due("undo() once more", air.undo(), NONE);
        Check.due("now(5)", air.now(5), 0);
        // Acts that change nothing are done all the same.
        air.smooth(50);
        air.window(0, 1, 1);
        Check.due("now(5) behind two acts", air.now(5), 2);
    }

    /** Acts on other STATIONS and SUBSTANCES than the first, one behind another, each undone where it was done. */
    private static void undoesElsewhere() {
        AirIndex air = Check.told("bands 1 2 3;smooth 0;substance 1 1 0 0 9 9;substance 3 2 0 0 9 9;station 0;station 0;"
            + "series 0 0 1 2 3;series 0 1 4 5 6;series 1 0 7 8 9;series 1 1 10 11 12;");
        air.correct(1, 1, 2, 50);
        air.correct(0, 1, 1, 51);
        air.correct(1, 0, 0, 52);
        air.window(1, 12, 12);
        air.window(0, 2, 2);
        for (int left = 4; left >= 0; left--) {
            Check.due("undo()", air.undo(), left);
        }
        int due = 1;
        for (int row = 0; row < 4; row++) {
            for (int hour = 0; hour < 3; hour++) {
                Check.due("read(" + row / 2 + ", " + row % 2 + ", " + hour + ")",
                    air.read(row / 2, row % 2, hour), due);
                due++;
            }
        }
        Check.due("mean(1, 1, 0)", air.mean(1, 1, 0), NONE);
        Check.due("mean(1, 1, 1)", air.mean(1, 1, 1), 10);
        Check.due("mean(1, 1, 2)", air.mean(1, 1, 2), 11);
        Check.due("mean(1, 0, 2)", air.mean(1, 0, 2), 9);
    }

    private static void tenAreKept() {
        AirIndex air = new AirIndex();
        for (int share = 1; share <= 25; share++) {
            air.smooth(share);
            Check.due("now(5)", air.now(5), Math.min(share, 10));
        }
        for (int left = 9; left >= 0; left--) {
            Check.due("undo()", air.undo(), left);
            Check.due("A", air.now(4), 15 + left);
        }
        Check.due("undo() of an eleventh", air.undo(), NONE);
        Check.due("A", air.now(4), 15);
        air.pass(1);
        for (int value = 0; value < 10; value++) {
            air.correct(0, 0, 0, value);
        }
        for (int left = 9; left >= 0; left--) {
            Check.due("undo()", air.undo(), left);
            Check.due("read(0, 0, 0)", air.read(0, 0, 0), left == 0 ? NONE : left - 1);
        }
        Check.due("undo() of a pass() no longer kept", air.undo(), NONE);
        Check.due("NOW", air.now(0), 1);
    }

    /** Refused calls are not kept, and a text with a fault leaves what can be undone. */
    private static void refusedActs() {
        AirIndex air = new AirIndex();
        air.pass(4);
        air.pass(0);
        air.smooth(101);
        air.window(0, 2, 3);
        air.correct(0, 0, 4, 5);
        air.correct(0, 0, 0, 1000);
        Check.due("now(5)", air.now(5), 1);
        Check.due("a text with a fault", Check.tell(air, "bands"), -6);
        Check.due("now(5) behind it", air.now(5), 1);
        Check.due("undo()", air.undo(), 0);
        Check.due("NOW", air.now(0), 0);
        air.pass(4);
        Check.due("a text", Check.tell(air, "bands 1 2 3;smooth 9;substance 1 1 0 0 9 9;station 0;"), 4);
        Check.due("undo() behind it", air.undo(), NONE);
        Check.due("NOW", air.now(0), 0);
    }
}
