/** Promises 11 to 15: sub, index, district, lasts and worst. */
public final class IndexTest {
    private static final int NONE = AirIndex.NONE;
    private static final int[] FAR = {-1, 1000, Integer.MIN_VALUE, Integer.MAX_VALUE};
    /** SUB of SUBSTANCE 0 is twice the MEAN of two HOURS, of SUBSTANCE 1 the READ. */
    private static final String TEXT = "bands 10 20 40;smooth 0;substance 2 2 0 0 100 200;substance 1 1 0 0 500 500;"
        + "station 1;station 0;station 1;station 1;"
        + "series 0 0 5 5 x 20 20;series 0 1 9 10 x x 41 7 20 10;"
        + "series 1 1 500;series 2 0 x 5 5 20 22;series 2 1 9 x x 40 x;";

    public static void main(String[] args) {
        AirIndex air = Check.told(TEXT);
        subs(air);
        indexes(air);
        districts(air);
        lasting(air);
        worstHours(air);
        wrongOnes(air);
        Check.finish();
    }

    private static void subs(AirIndex air) {
        int[] first = {NONE, 10, NONE, NONE, 40, NONE, NONE, NONE};
        int[] second = {9, 10, NONE, NONE, 41, 7, 20, 10};
        for (int hour = 0; hour < 8; hour++) {
            Check.due("sub(0, 0, " + hour + ")", air.sub(0, 0, hour), first[hour]);
            Check.due("sub(0, 1, " + hour + ")", air.sub(0, 1, hour), second[hour]);
            Check.due("sub(3, 1, " + hour + ")", air.sub(3, 1, hour), NONE);
        }
        Check.due("sub(2, 0, 4)", air.sub(2, 0, 4), 42);
    }

    private static void indexes(AirIndex air) {
        int[] index = {9, 10, NONE, NONE, 41, 7, 20, 10};
        int[] ruling = {1, 0, NONE, NONE, 1, 1, 1, 1};
        int[] band = {0, 1, NONE, NONE, 3, 0, 2, 1};
        for (int hour = 0; hour < 8; hour++) {
            Check.due("index(0, " + hour + ", 0)", air.index(0, hour, 0), index[hour]);
            Check.due("index(0, " + hour + ", 1)", air.index(0, hour, 1), ruling[hour]);
            Check.due("index(0, " + hour + ", 2)", air.index(0, hour, 2), band[hour]);
        }
        // Of like SUBS the lesser number rules, a greater SUB of the lesser number too.
        Check.due("index(2, 4, 1)", air.index(2, 4, 1), 0);
        Check.due("index(2, 3, 0)", air.index(2, 3, 0), 40);
        Check.due("index(2, 3, 1)", air.index(2, 3, 1), 1);
    }

    private static void districts(AirIndex air) {
        int[] index = {9, 10, 10, 40, 42, 7, 20, 10};
        int[] worst = {0, 0, 2, 2, 2, 0, 0, 0};
        int[] band = {0, 1, 1, 3, 3, 0, 2, 1};
        int[] count = {2, 1, 1, 1, 2, 1, 1, 1};
        for (int hour = 0; hour < 8; hour++) {
            Check.due("district(1, " + hour + ", 0)", air.district(1, hour, 0), index[hour]);
            Check.due("district(1, " + hour + ", 1)", air.district(1, hour, 1), worst[hour]);
            Check.due("district(1, " + hour + ", 2)", air.district(1, hour, 2), band[hour]);
            Check.due("district(1, " + hour + ", 3)", air.district(1, hour, 3), count[hour]);
            for (int what = 0; what < 3; what++) {
                Check.due("district(2, " + hour + ", " + what + ")", air.district(2, hour, what), NONE);
            }
            Check.due("district(2, " + hour + ", 3)", air.district(2, hour, 3), 0);
        }
        Check.due("district(0, 0, 0)", air.district(0, 0, 0), 500);
        Check.due("district(0, 0, 1)", air.district(0, 0, 1), 1);
        Check.due("district(0, 1, 0)", air.district(0, 1, 0), NONE);
        Check.due("district(0, 1, 1)", air.district(0, 1, 1), NONE);
        Check.due("district(0, 1, 2)", air.district(0, 1, 2), NONE);
        Check.due("district(0, 1, 3)", air.district(0, 1, 3), 0);
    }

    private static void lasting(AirIndex air) {
        int[][] due = {{0, 1, 0, 0, 1, 0, 1, 2}, {0, 0, 0, 0, 1, 0, 1, 0}, {0, 0, 0, 0, 1, 0, 0, 0}};
        int[][] other = {{0, 0, 1, 2, 3, 0}, {0, 0, 0, 1, 2, 0}, {0, 0, 0, 1, 2, 0}};
        for (int band = 1; band <= 3; band++) {
            for (int hour = 0; hour < 8; hour++) {
                Check.due("lasts(0, " + hour + ", " + band + ")", air.lasts(0, hour, band), due[band - 1][hour]);
            }
            for (int hour = 0; hour < 6; hour++) {
                Check.due("lasts(2, " + hour + ", " + band + ")", air.lasts(2, hour, band), other[band - 1][hour]);
            }
        }
        // A row of HOURS that goes back to HOUR 0.
        Check.due("lasts(1, 0, 3)", air.lasts(1, 0, 3), 1);
    }

    private static void worstHours(AirIndex air) {
        Check.due("worst(0, 0, 7)", air.worst(0, 0, 7), 4);
        Check.due("worst(0, 0, 1)", air.worst(0, 0, 1), 1);
        Check.due("worst(0, 5, 7)", air.worst(0, 5, 7), 6);
        Check.due("worst(0, 4, 4)", air.worst(0, 4, 4), 4);
        Check.due("worst(0, 2, 3)", air.worst(0, 2, 3), NONE);
        Check.due("worst(0, 2, 2)", air.worst(0, 2, 2), NONE);
        Check.due("worst(0, 4, 3)", air.worst(0, 4, 3), NONE);
        Check.due("worst(3, 0, 7)", air.worst(3, 0, 7), NONE);
        AirIndex even = Check.told("bands 1 2 3;smooth 0;substance 1 1 5 4 9 4;station 0;series 0 0 x 1 2 3;");
        Check.due("worst() of like ones", even.worst(0, 0, 3), 1);
        Check.due("worst() of like ones from 2 on", even.worst(0, 2, 3), 2);
        AirIndex zero = Check.told("bands 1 2 3;smooth 0;substance 1 1 5 0 9 0;station 0;series 0 0 x 1 2;");
        Check.due("worst() of an INDEX 0", zero.worst(0, 0, 2), 1);
        Check.due("BAND of an INDEX 0", zero.index(0, 1, 2), 0);
        Check.due("RULING of an INDEX 0", zero.index(0, 1, 1), 0);
        Check.due("WORST of an INDEX 0", zero.district(0, 1, 1), 0);
    }

    private static void wrongOnes(AirIndex air) {
        for (int far : FAR) {
            Check.due("sub(" + far + ", 0, 1)", air.sub(far, 0, 1), NONE);
            Check.due("sub(0, " + far + ", 1)", air.sub(0, far, 1), NONE);
            Check.due("sub(0, 0, " + far + ")", air.sub(0, 0, far), NONE);
            for (int what = 0; what < 4; what++) {
                Check.due("index(" + far + ", 1, " + what + ")", air.index(far, 1, what), NONE);
                Check.due("index(0, " + far + ", " + what + ")", air.index(0, far, what), NONE);
                Check.due("district(" + far + ", 1, " + what + ")", air.district(far, 1, what), NONE);
                Check.due("district(1, " + far + ", " + what + ")", air.district(1, far, what), NONE);
            }
            Check.due("index(0, 1, " + far + ")", air.index(0, 1, far), NONE);
            Check.due("district(1, 1, " + far + ")", air.district(1, 1, far), NONE);
            Check.due("lasts(" + far + ", 1, 1)", air.lasts(far, 1, 1), NONE);
            Check.due("lasts(0, " + far + ", 1)", air.lasts(0, far, 1), NONE);
            Check.due("lasts(0, 1, " + far + ")", air.lasts(0, 1, far), NONE);
            Check.due("worst(" + far + ", 0, 7)", air.worst(far, 0, 7), NONE);
            Check.due("worst(0, " + far + ", 7)", air.worst(0, far, 7), NONE);
            Check.due("worst(0, 0, " + far + ")", air.worst(0, 0, far), NONE);
        }
        Check.due("index(0, 1, 3)", air.index(0, 1, 3), NONE);
        Check.due("district(1, 1, 4)", air.district(1, 1, 4), NONE);
        Check.due("district(3, 1, 3)", air.district(3, 1, 3), NONE);
        Check.due("district(1, 8, 3)", air.district(1, 8, 3), NONE);
        AirIndex one = Check.told("bands 1 2 3;smooth 0;substance 1 1 0 0 9 9;station 0;series 0 0 5;");
        Check.due("lasts(1, 0, 1) of one STATION", one.lasts(1, 0, 1), NONE);
        Check.due("worst(1, 0, 0) of one STATION", one.worst(1, 0, 0), NONE);
        Check.due("index(1, 0, 0) of one STATION", one.index(1, 0, 0), NONE);
        Check.due("lasts(0, 8, 1)", air.lasts(0, 8, 1), NONE);
        Check.due("lasts(0, 1, 0)", air.lasts(0, 1, 0), NONE);
        Check.due("lasts(0, 1, 4)", air.lasts(0, 1, 4), NONE);
        Check.due("lasts(4, 1, 1)", air.lasts(4, 1, 1), NONE);
        Check.due("worst(0, 0, 8)", air.worst(0, 0, 8), NONE);
        Check.due("worst(4, 0, 7)", air.worst(4, 0, 7), NONE);
    }
}
