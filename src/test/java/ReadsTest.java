/** Promises 6 to 8: now, read and mean, with HOURS and MEAN. */
public final class ReadsTest {
    private static final int NONE = AirIndex.NONE;
    private static final int[] FAR = {-1, -2, 1000, Integer.MIN_VALUE, Integer.MAX_VALUE};

    public static void main(String[] args) {
        counts();
        reads();
        means();
        needs();
        wrongOnes();
        Check.finish();
    }

    private static void counts() {
        AirIndex air = Check.told("bands 1 2 3;smooth 77;substance 3 2 0 0 9 9;substance 1 1 0 0 9 9;"
            + "station 0;station 1;station 2;series 2 1 1 x 3 x x;series 0 0 4 5;");
        int[] due = {5, 2, 3, 4, 77, 0, 0};
        for (int what = 0; what < due.length; what++) {
            Check.due("now(" + what + ")", air.now(what), due[what]);
        }
        int[] others = {-1, 7, 8, Integer.MIN_VALUE, Integer.MAX_VALUE};
        for (int what : others) {
            Check.due("now(" + what + ")", air.now(what), NONE);
        }
        air.correct(0, 1, 4, 9);
        Check.due("READS in all behind one more", air.now(3), 5);
        air.correct(0, 0, 0, NONE);
        air.correct(0, 0, 1, NONE);
        Check.due("READS in all behind two less", air.now(3), 3);
        Check.due("what can be undone", air.now(5), 3);
        air.pass(2);
        Check.due("NOW", air.now(0), 7);
        Check.due("READS in all behind pass()", air.now(3), 3);
        air.feed(1, 2, 3, 4, 5);
        Check.due("bytes of the tape", air.now(6), 20);
    }

    private static void reads() {
        AirIndex air = Check.told("bands 1 2 3;smooth 0;substance 1 1 0 0 9 9;substance 1 1 0 0 9 9;"
            + "station 0;station 0;series 0 0 0 x 999;series 0 1 1;series 1 1 5 6 7 8;");
        int[][] due = {{0, NONE, 999, NONE}, {1, NONE, NONE, NONE}, {NONE, NONE, NONE, NONE}, {5, 6, 7, 8}};
        for (int row = 0; row < 4; row++) {
            for (int hour = 0; hour < 4; hour++) {
                Check.due("read(" + row / 2 + ", " + row % 2 + ", " + hour + ")",
                    air.read(row / 2, row % 2, hour), due[row][hour]);
            }
        }
        Check.due("read() behind NOW", air.read(1, 1, 4), NONE);
        Check.due("NOW without a series", Check.told("bands 1 2 3;smooth 0;substance 1 1 0 0 9 9;station 0;").now(0), 0);
        Check.due("NOW of what is missing alone", Check.told("bands 1 2 3;smooth 0;substance 1 1 0 0 9 9;station 0;"
            + "series 0 0 x x;").now(0), 2);
    }

    private static void means() {
        AirIndex air = Check.told("bands 1 2 3;smooth 0;substance 3 1 0 0 9 9;substance 4 3 0 0 9 9;station 0;"
            + "series 0 0 10 x 5 x x x 7 8;series 0 1 x 1 2 4 x 9 10 10;");
        int[] loose = {10, 10, 8, 5, 5, NONE, 7, 7};
        int[] strict = {NONE, NONE, NONE, 2, 2, 6, 8, 9};
        for (int hour = 0; hour < 8; hour++) {
            Check.due("mean(0, 0, " + hour + ")", air.mean(0, 0, hour), loose[hour]);
            Check.due("mean(0, 1, " + hour + ")", air.mean(0, 1, hour), strict[hour]);
        }
        AirIndex cut = Check.told("bands 1 2 3;smooth 0;substance 3 1 0 0 9 9;station 0;series 0 0 0 0 2 999 999 999;");
        int[] due = {0, 0, 0, 333, 666, 999};
        for (int hour = 0; hour < 6; hour++) {
            Check.due("mean(0, 0, " + hour + ") cut", cut.mean(0, 0, hour), due[hour]);
        }
    }

    /** A missing HOUR counts as the greatest one read in the window, the window begins no earlier than HOUR 0. */
    private static void needs() {
        for (int need = 1; need <= 12; need++) {
            AirIndex air = Check.told("bands 1 2 3;smooth 0;substance 12 " + need + " 0 0 9 9;station 0;"
                + "series 0 0 x 1 x 100 x 7 x x 3 x x x x x;");
            int[] found = {0, 1, 1, 2, 2, 3, 3, 3, 4, 4, 4, 4, 4, 3};
            int[] greatest = {0, 1, 1, 100, 100, 100, 100, 100, 100, 100, 100, 100, 100, 100};
            int[] sum = {0, 1, 1, 101, 101, 108, 108, 108, 111, 111, 111, 111, 111, 110};
            for (int hour = 0; hour < 14; hour++) {
                int hours = Math.min(hour + 1, 12);
                int due = found[hour] < need ? NONE : (sum[hour] + (hours - found[hour]) * greatest[hour]) / hours;
                Check.due("mean(0, 0, " + hour + "), NEED " + need, air.mean(0, 0, hour), due);
            }
        }
    }

    private static void wrongOnes() {
        AirIndex air = Check.told("bands 1 2 3;smooth 0;substance 1 1 0 0 9 9;station 0;series 0 0 5 5;");
        for (int far : FAR) {
            Check.due("read(" + far + ", 0, 0)", air.read(far, 0, 0), NONE);
            Check.due("read(0, " + far + ", 0)", air.read(0, far, 0), NONE);
            Check.due("read(0, 0, " + far + ")", air.read(0, 0, far), NONE);
            Check.due("mean(" + far + ", 0, 0)", air.mean(far, 0, 0), NONE);
            Check.due("mean(0, " + far + ", 0)", air.mean(0, far, 0), NONE);
            Check.due("mean(0, 0, " + far + ")", air.mean(0, 0, far), NONE);
        }
        Check.due("read(1, 0, 0)", air.read(1, 0, 0), NONE);
        Check.due("read(0, 1, 0)", air.read(0, 1, 0), NONE);
        Check.due("read(0, 0, 2)", air.read(0, 0, 2), NONE);
        Check.due("mean(1, 0, 0)", air.mean(1, 0, 0), NONE);
        Check.due("mean(0, 1, 0)", air.mean(0, 1, 0), NONE);
        Check.due("mean(0, 0, 2)", air.mean(0, 0, 2), NONE);
    }
}
