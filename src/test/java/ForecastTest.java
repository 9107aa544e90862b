/** Promise 16: forecast, with SMOOTHED in floats. */
public final class ForecastTest {
    private static final int NONE = AirIndex.NONE;

    public static void main(String[] args) {
        rows();
        wrongOnes();
        asFloatsGo();
        Check.finish();
    }

    private static AirIndex toldWith(int share, String reads) {
        return Check.told("bands 1 2 3;smooth " + share + ";substance 1 1 0 0 9 9;substance 1 1 0 0 9 9;station 0;"
            + "series 0 0 " + reads + ";");
    }

    private static void rows() {
        String reads = "x x 100 x 200 0 x 999";
        int[] half = {NONE, NONE, 100, 100, 150, 75, 75, 537};
        int[] none = {NONE, NONE, 100, 100, 100, 100, 100, 100};
        int[] whole = {NONE, NONE, 100, 100, 200, 0, 0, 999};
        for (int hour = 0; hour < 8; hour++) {
            Check.due("forecast(0, 0, " + hour + "), A 50", toldWith(50, reads).forecast(0, 0, hour), half[hour]);
            Check.due("forecast(0, 0, " + hour + "), A 0", toldWith(0, reads).forecast(0, 0, hour), none[hour]);
            Check.due("forecast(0, 0, " + hour + "), A 100", toldWith(100, reads).forecast(0, 0, hour), whole[hour]);
        }
        AirIndex air = toldWith(33, reads);
        Check.due("forecast() without a READ", air.forecast(0, 1, 7), NONE);
        air.correct(0, 1, 3, 8);
        Check.due("forecast() ahead of the first READ", air.forecast(0, 1, 2), NONE);
        Check.due("forecast() of one READ", air.forecast(0, 1, 3), 8);
        air.smooth(100);
        Check.due("forecast() by another A", air.forecast(0, 0, 7), 999);
    }

    private static void wrongOnes() {
        AirIndex air = toldWith(50, "1 2 3");
        int[] far = {-1, 3, 1000, Integer.MIN_VALUE, Integer.MAX_VALUE};
        for (int wrong : far) {
            Check.due("forecast(" + wrong + ", 0, 0)", air.forecast(wrong, 0, 0), NONE);
            Check.due("forecast(0, " + wrong + ", 0)", air.forecast(0, wrong, 0), NONE);
            Check.due("forecast(0, 0, " + wrong + ")", air.forecast(0, 0, wrong), NONE);
        }
    }

    /** Rows in which a float's rounding tells: doubles, or A divided last, would answer one more or one less. */
    private static void asFloatsGo() {
        Check.due("719 4 by 60", toldWith(60, "719 4").forecast(0, 0, 1), 289);
        Check.due("645 25 113 7 by 60", toldWith(60, "645 x 25 113 x 7").forecast(0, 0, 5), 74);
        Check.due("117 17 by 56", toldWith(56, "117 17").forecast(0, 0, 1), 61);
        Check.due("760 10 by 54", toldWith(54, "760 10").forecast(0, 0, 1), 354);
        Check.due("622 72 by 56", toldWith(56, "622 72").forecast(0, 0, 1), 314);
        Check.due("12 662 by 70", toldWith(70, "12 662").forecast(0, 0, 1), 467);
        Check.due("1 901 by 52", toldWith(52, "1 901").forecast(0, 0, 1), 468);
        Check.due("360 80 727 958 70 by 60", toldWith(60, "360 80 727 958 70").forecast(0, 0, 4), 353);
        Check.due("951 251 by 66", toldWith(66, "951 251").forecast(0, 0, 1), 488);
        Check.due("53 353 by 59", toldWith(59, "53 353").forecast(0, 0, 1), 229);
    }
}
