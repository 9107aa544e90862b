/** The sentences on HOURS, MEAN, SUB, INDEX, BAND, SMOOTHED and FORECAST that name a boundary. */
public final class TermsEdgesTest {
    private static final int NONE = AirIndex.NONE;
    private static final String TWELVE = " 7 501 20 999 0 333 64 1 998 42 650 77";

    public static void main(String[] args) {
        hours();
        missing();
        windowBegins();
        needed();
        missingCountsAsGreatest();
        cut();
        betweenPoints();
        outsidePoints();
        subOfStation();
        indexAndRuling();
        districtAndWorst();
        bands();
        smoothed();
        inFloats();
        forecasts();
        Check.finish();
    }

    /** district(.., 3) is NONE where there is no such HOUR, and 0 or more where there is. */
    private static void hours() {
        Check.sentence("HOURS 0 to NOW less 1; NOW is how many READS the longest 'series' has (0 without).");
        AirIndex none = Check.told(Texts.office(2, 2));
        Check.due("NOW without a 'series'", none.now(0), 0);
        Check.due("HOUR 0 of none", none.district(0, 0, 3), NONE);
        String[][] rows = {{"5", "1"}, {"x", "1"}, {"x x x", "3"}, {"5" + " x".repeat(23), "24"}, {"5 ".repeat(24), "24"}};
        for (String[] row : rows) {
            AirIndex air = Check.told(Texts.office(2, 2) + "series 0 1 x;series 1 1 " + row[0] + ";series 1 0 5;");
            int now = Integer.parseInt(row[1]);
            Check.due("NOW of " + row[0], air.now(0), now);
            Check.due("the first HOUR", air.district(0, 0, 3) >= 0, true);
            Check.due("the last HOUR", air.district(0, now - 1, 3) >= 0, true);
            Check.due("the HOUR NOW", air.district(0, now, 3), NONE);
            Check.due("the HOUR -1", air.district(0, -1, 3), NONE);
        }
    }

    private static void missing() {
        Check.sentence("Of each STATION, SUBSTANCE and HOUR there is a READ, or it is missing (behind the end of its"
            + " 'series', without one, too).");
        AirIndex air = Check.told(Texts.office(2, 2) + "series 0 0 0 x 9;series 1 1 8 7;");
        int[][] due = {{0, NONE, 9}, {NONE, NONE, NONE}, {NONE, NONE, NONE}, {8, 7, NONE}};
        for (int row = 0; row < 4; row++) {
            for (int hour = 0; hour < 3; hour++) {
                Check.due("read(" + row / 2 + ", " + row % 2 + ", " + hour + ")", air.read(row / 2, row % 2, hour),
                    due[row][hour]);
            }
        }
        Check.due("READS in all", air.now(3), 4);
        Check.due("a READ where there is no 'series'", air.correct(1, 0, 2, 6), 1);
        Check.due("read(1, 0, 2)", air.read(1, 0, 2), 6);
    }

    /** The MEAN hangs on the READ in the first HOUR of its window, and not on the one ahead of that. */
    private static void windowBegins() {
        Check.sentence("in HOURS h less WINDOW and 1 to h (0 at least)");
        String reads = TWELVE + TWELVE;
        String[] numbers = reads.trim().split(" ");
        for (int window = 1; window <= 12; window++) {
            AirIndex air = Check.told(Texts.oneSeries(window, 1, reads));
            for (int hour = 0; hour < 24; hour++) {
                int first = Math.max(0, hour - window + 1);
                int sum = 0;
                for (int h = first; h <= hour; h++) {
                    sum += Integer.parseInt(numbers[h]);
                }
                Check.due("mean(0, 0, " + hour + "), WINDOW " + window, air.mean(0, 0, hour), sum / (hour - first + 1));
            }
            AirIndex zeros = Check.told(Texts.oneSeries(window, 1, "0 ".repeat(24)));
            zeros.correct(0, 0, 3, 999);
            for (int hour = 0; hour < 24; hour++) {
                boolean within = hour >= 3 && hour < 3 + window;
                Check.due("READ 3 in the window of " + window + " at " + hour, zeros.mean(0, 0, hour) > 0, within);
            }
        }
    }

    private static void needed() {
        Check.sentence("none, if fewer than NEED are read");
        for (int need = 1; need <= 12; need++) {
            AirIndex air = Check.told(Texts.oneSeries(12, need, "x ".repeat(24)));
            Check.due("mean() of none read, NEED " + need, air.mean(0, 0, 11), NONE);
            for (int read = 1; read <= 12; read++) {
                air.correct(0, 0, 12 - read, 6);
                Check.due("mean() of " + read + " read, NEED " + need, air.mean(0, 0, 11), read < need ? NONE : 6);
                Check.due("sub() of " + read + " read, NEED " + need, air.sub(0, 0, 11), read < need ? NONE : 6);
            }
            // In the first HOURS fewer can be read than are needed.
            for (int hour = 0; hour < 12; hour++) {
                Check.due("mean(0, 0, " + hour + "), NEED " + need, air.mean(0, 0, hour), hour + 1 < need ? NONE : 6);
            }
        }
    }

    private static void missingCountsAsGreatest() {
        Check.sentence("the sum of those read, and for each missing one (of these HOURS from 0 on) the greatest of them");
        AirIndex air = Check.told(Texts.oneSeries(12, 1, "100 x 0 x x 400" + " x".repeat(13)));
        // No HOUR ahead of 0 counts as missing; at 12 the 100 is behind the window, at 14 the 0, at 17 the 400.
        int[] due = {100, 100, 66, 75, 80, 283, 300, 312, 322, 330, 336, 341, 366, 366, 400, 400, 400, NONE, NONE};
        for (int hour = 0; hour < due.length; hour++) {
            Check.due("mean(0, 0, " + hour + ")", air.mean(0, 0, hour), due[hour]);
        }
        AirIndex zero = Check.told(Texts.oneSeries(3, 1, "0 x x"));
        Check.due("mean() of a READ 0 and missing ones", zero.mean(0, 0, 2), 0);
    }

    private static void cut() {
        Check.sentence("by how many HOURS these are, cut");
        AirIndex air = Check.told(Texts.oneSeries(12, 1, "0 1 1 1 1 1 1 1 1 1 1 1 1"));
        for (int hour = 0; hour < 12; hour++) {
            Check.due("mean(0, 0, " + hour + ") of less than 1", air.mean(0, 0, hour), 0);
        }
        Check.due("mean(0, 0, 12) of just 1", air.mean(0, 0, 12), 1);
        AirIndex most = Check.told(Texts.oneSeries(12, 12, "999 ".repeat(13)));
        Check.due("mean() of the greatest READS", most.mean(0, 0, 12), 999);
        most.correct(0, 0, 5, 998);
        Check.due("mean() of one less", most.mean(0, 0, 12), 998);
    }

    private static void betweenPoints() {
        Check.sentence("of points next to one another below and above it: INDEX of the first, and (LEVEL less its LEVEL)"
            + " times (the second INDEX less the first) by (the second LEVEL less the first), cut, more");
        AirIndex air = Check.told("bands 1 2 3;smooth 5;substance 1 1 10 5 20 5 23 15 123 16 999 500;"
            + "substance 1 1 0 0 999 500;substance 1 1 500 0 501 500;station 0;");
        int[][] due = {{10, 5}, {11, 5}, {19, 5}, {20, 5}, {21, 8}, {22, 11}, {23, 15}, {24, 15}, {122, 15}, {123, 16},
            {124, 16}, {125, 17}, {998, 499}, {999, 500}};
        for (int[] row : due) {
            Check.due("scale(0, " + row[0] + ")", air.scale(0, row[0]), row[1]);
        }
        // 998 times 500 is more than a short or 16 bits hold.
        int[][] wide = {{0, 0}, {1, 0}, {2, 1}, {500, 250}, {997, 498}, {998, 499}, {999, 500}};
        for (int[] row : wide) {
            Check.due("scale(1, " + row[0] + ")", air.scale(1, row[0]), row[1]);
        }
        Check.due("scale(2, 500): points one LEVEL apart", air.scale(2, 500), 0);
        Check.due("scale(2, 501)", air.scale(2, 501), 500);
    }

    private static void outsidePoints() {
        Check.sentence("at or below the first point its INDEX, at or above the last its.");
        AirIndex air = Check.told("bands 1 2 3;smooth 5;substance 1 1 100 40 200 60;substance 1 1 0 7 999 9;"
            + "substance 1 1 998 3 999 4;station 0;");
        int[][] due = {{0, 0, 40}, {0, 99, 40}, {0, 100, 40}, {0, 104, 40}, {0, 105, 41}, {0, 199, 59}, {0, 200, 60},
            {0, 201, 60}, {0, 999, 60}, {1, 0, 7}, {1, 999, 9}, {2, 0, 3}, {2, 997, 3}, {2, 998, 3}, {2, 999, 4}};
        for (int[] row : due) {
            Check.due("scale(" + row[0] + ", " + row[1] + ")", air.scale(row[0], row[1]), row[2]);
        }
    }

    private static void subOfStation() {
        Check.sentence("SUB of a STATION in an HOUR: at its MEAN (none without).");
        AirIndex air = Check.told("bands 1 2 3;smooth 5;substance 2 2 10 3 20 100;station 0;series 0 0 15 16 x 999 999;");
        int[] due = {NONE, 51, NONE, NONE, 100};
        for (int hour = 0; hour < due.length; hour++) {
            Check.due("sub(0, 0, " + hour + ")", air.sub(0, 0, hour), due[hour]);
        }
    }

    /** Three SUBSTANCES whose SUB is the READ, each HOUR another order of them. */
    private static void indexAndRuling() {
        Check.sentence("INDEX of a STATION in an HOUR: the greatest SUB of SUBSTANCES (none without any); RULING: that"
            + " SUBSTANCE, of like ones the lesser number.");
        String line = "substance 1 1 0 0 500 500;";
        AirIndex air = Check.told("bands 1 2 3;smooth 5;" + line + line + line + "station 0;"
            + "series 0 0 x 0 x x 5 5 4 4 5 4 500;series 0 1 x x 0 x 4 5 5 5 4 4 500;series 0 2 x x x 0 4 4 5 4 5 5 500;");
        int[] index = {NONE, 0, 0, 0, 5, 5, 5, 5, 5, 5, 500};
        int[] ruling = {NONE, 0, 1, 2, 0, 0, 1, 1, 0, 2, 0};
        for (int hour = 0; hour < index.length; hour++) {
            Check.due("index(0, " + hour + ", 0)", air.index(0, hour, 0), index[hour]);
            Check.due("index(0, " + hour + ", 1)", air.index(0, hour, 1), ruling[hour]);
        }
    }

    /** STATIONS 0, 2 and 3 stand in DISTRICT 1, STATION 1 in DISTRICT 2, none in DISTRICT 0. */
    private static void districtAndWorst() {
        Check.sentence("INDEX of a DISTRICT: the greatest of its STATIONS (none without any); WORST: that STATION, of like"
            + " ones the lesser number.");
        AirIndex air = Check.told("bands 1 2 3;smooth 5;substance 1 1 0 0 500 500;station 1;station 2;station 1;station 1;"
            + "series 0 0 x 0 x x 5 4 4 5;series 1 0 500 x 500 x 500 x 500 x;series 2 0 x x 0 x 5 5 4 4;"
            + "series 3 0 x x x 0 5 5 5 4;");
        int[] index = {NONE, 0, 0, 0, 5, 5, 5, 5};
        int[] worst = {NONE, 0, 2, 3, 0, 2, 3, 0};
        for (int hour = 0; hour < index.length; hour++) {
            Check.due("district(1, " + hour + ", 0)", air.district(1, hour, 0), index[hour]);
            Check.due("district(1, " + hour + ", 1)", air.district(1, hour, 1), worst[hour]);
            Check.due("district(2, " + hour + ", 0)", air.district(2, hour, 0), hour % 2 == 0 ? 500 : NONE);
            Check.due("district(2, " + hour + ", 1)", air.district(2, hour, 1), hour % 2 == 0 ? 1 : NONE);
            Check.due("district(0, " + hour + ", 0): no STATION", air.district(0, hour, 0), NONE);
            Check.due("district(0, " + hour + ", 1): no STATION", air.district(0, hour, 1), NONE);
        }
    }

    private static void bands() {
        Check.sentence("BAND of an INDEX: how many B are not above it.");
        String rest = ";smooth 5;substance 1 1 0 0 500 500;station 0;series 0 0 0 1 2 3 498 499 500 999;";
        String[] three = {"1 2 3", "498 499 500", "1 499 500", "2 3 500"};
        int[][] due = {{0, 1, 2, 3, 3, 3, 3, 3}, {0, 0, 0, 0, 1, 2, 3, 3}, {0, 1, 1, 1, 1, 2, 3, 3}, {0, 0, 1, 2, 2, 2, 3, 3}};
        for (int row = 0; row < three.length; row++) {
            AirIndex air = Check.told("bands " + three[row] + rest);
            for (int hour = 0; hour < 8; hour++) {
                Check.due("index(0, " + hour + ", 2), B " + three[row], air.index(0, hour, 2), due[row][hour]);
                Check.due("district(0, " + hour + ", 2), B " + three[row], air.district(0, hour, 2), due[row][hour]);
            }
        }
    }

    private static AirIndex smoothing(int share, String reads) {
        return Check.told("bands 1 2 3;smooth " + share + ";" + Texts.SUBSTANCE + Texts.STATION + "series 0 0 " + reads + ";");
    }

    private static void smoothed() {
        Check.sentence("a float F: the first READ; by each further READ up to that HOUR, HOUR by HOUR");
        String reads = "x 100 x 200 0 999 x";
        int[] shares = {0, 1, 50, 99, 100};
        int[][] due = {{NONE, 100, 100, 100, 100, 100, 100}, {NONE, 100, 100, 101, 99, 108, 108},
            {NONE, 100, 100, 150, 75, 537, 537}, {NONE, 100, 100, 199, 1, 989, 989}, {NONE, 100, 100, 200, 0, 999, 999}};
        for (int row = 0; row < shares.length; row++) {
            AirIndex air = smoothing(shares[row], reads);
            for (int hour = 0; hour < 7; hour++) {
                Check.due("forecast(0, 0, " + hour + "), A " + shares[row], air.forecast(0, 0, hour), due[row][hour]);
            }
        }
    }

    /** Rows that another way of counting (doubles, a fused step, A divided last, F cut or rounded) answers otherwise. */
    private static void inFloats() {
        Check.sentence("F becomes F + A / 100f * (READ - F), all of it in floats (a READ as a float; A / 100f is made first,"
            + " then times the difference, then F and that)");
        int[][] rows = {{60, 765, 95, 362}, {56, 97, 22, 55}, {78, 36, 636, 503}, {72, 313, 38, 114}, {35, 973, 573, 833},
            {10, 791, 341, 746}, {92, 252, 977, 919}, {40, 30, 970, 406}, {92, 870, 120, 180}, {85, 535, 35, 110},
            {80, 376, 46, 112}, {91, 746, 146, 200}, {60, 413, 253, 317}, {40, 962, 737, 872}, {60, 467, 47, 214},
            {99, 187, 87, 88}, {60, 73, 3, 31}};
        for (int[] row : rows) {
            AirIndex air = smoothing(row[0], row[1] + " x " + row[2]);
            Check.due("forecast() of " + row[1] + " " + row[2] + ", A " + row[0], air.forecast(0, 0, 2), row[3]);
        }
        Check.due("106 536 294, A 43: F is not cut", smoothing(43, "106 536 294").forecast(0, 0, 2), 292);
        Check.due("290 650 272, A 13: F is not cut", smoothing(13, "290 650 272").forecast(0, 0, 2), 328);
    }

    private static void forecasts() {
        Check.sentence("FORECAST: F cast to an int (none without a READ).");
        Check.due("250 922, A 19", smoothing(19, "250 922").forecast(0, 0, 1), 377);
        Check.due("0 1, A 99", smoothing(99, "0 1").forecast(0, 0, 1), 0);
        Check.due("0 1, A 100", smoothing(100, "0 1").forecast(0, 0, 1), 1);
        Check.due("999 998, A 1", smoothing(1, "999 998").forecast(0, 0, 1), 998);
        Check.due("a READ 0", smoothing(50, "0").forecast(0, 0, 0), 0);
        AirIndex air = smoothing(50, "x x 8");
        Check.due("none ahead of the first READ", air.forecast(0, 0, 1), NONE);
        Check.due("the first READ", air.forecast(0, 0, 2), 8);
        air.correct(0, 0, 2, NONE);
        Check.due("none without a READ", air.forecast(0, 0, 2), NONE);
    }
}
