/** Promises 9 and 10: scale and back, with SUB of a SUBSTANCE. */
public final class ScaleTest {
    private static final int NONE = AirIndex.NONE;
    private static final String OFFICE = "bands 1 2 3;smooth 0;substance 1 1 10 7 20 7 23 17 500 18 900 500;"
        + "substance 1 1 0 3 999 500;substance 1 1 998 0 999 0;station 0;";

    public static void main(String[] args) {
        AirIndex air = Check.told(OFFICE);
        int[][] due = {{0, 7}, {9, 7}, {10, 7}, {11, 7}, {20, 7}, {21, 10}, {22, 13}, {23, 17}, {24, 17}, {499, 17},
            {500, 18}, {501, 19}, {502, 20}, {699, 257}, {700, 259}, {899, 498}, {900, 500}, {901, 500}, {999, 500}};
        for (int[] row : due) {
            Check.due("scale(0, " + row[0] + ")", air.scale(0, row[0]), row[1]);
        }
        Check.due("scale(1, 0)", air.scale(1, 0), 3);
        Check.due("scale(1, 1)", air.scale(1, 1), 3);
        Check.due("scale(1, 2)", air.scale(1, 2), 3);
        Check.due("scale(1, 3)", air.scale(1, 3), 4);
        Check.due("scale(1, 998)", air.scale(1, 998), 499);
        Check.due("scale(1, 999)", air.scale(1, 999), 500);
        Check.due("scale(2, 999)", air.scale(2, 999), 0);
        backs(air);
        wrongOnes(air);
        Check.finish();
    }

    private static void backs(AirIndex air) {
        int[][] due = {{0, 0}, {7, 0}, {8, 21}, {10, 21}, {11, 22}, {13, 22}, {14, 23}, {17, 23}, {18, 500}, {19, 501},
            {259, 700}, {258, 700}, {257, 699}, {500, 900}};
        for (int[] row : due) {
            Check.due("back(0, " + row[0] + ")", air.back(0, row[0]), row[1]);
        }
        Check.due("back(1, 3)", air.back(1, 3), 0);
        Check.due("back(1, 4)", air.back(1, 4), 3);
        Check.due("back(1, 500)", air.back(1, 500), 999);
        Check.due("back(2, 0)", air.back(2, 0), 0);
        Check.due("back(2, 1)", air.back(2, 1), -2);
        Check.due("back(2, 500)", air.back(2, 500), -2);
        backsOfAllIndexes();
    }

    /** back() against scale() at every LEVEL, on objects of fewer than 512 calls each. */
    private static void backsOfAllIndexes() {
        for (int substance = 0; substance < 3; substance++) {
            int[] subs = new int[1000];
            AirIndex air = null;
            for (int level = 0; level <= 999; level++) {
                if (level % 400 == 0) {
                    air = Check.told(OFFICE);
                }
                subs[level] = air.scale(substance, level);
            }
            for (int index = 0; index <= 500; index++) {
                if (index % 400 == 0) {
                    air = Check.told(OFFICE);
                }
                Check.due("back(" + substance + ", " + index + ")", air.back(substance, index), leastLevel(subs, index));
            }
        }
    }

    private static int leastLevel(int[] subs, int index) {
        for (int level = 0; level <= 999; level++) {
            if (subs[level] >= index) {
                return level;
            }
        }
        return -2;
    }

    private static void wrongOnes(AirIndex air) {
        int[] noSubstances = {-1, 3, 4, Integer.MIN_VALUE, Integer.MAX_VALUE};
        for (int substance : noSubstances) {
            Check.due("scale(" + substance + ", 5)", air.scale(substance, 5), NONE);
            Check.due("back(" + substance + ", 5)", air.back(substance, 5), NONE);
        }
        int[] noLevels = {-1, 1000, Integer.MIN_VALUE, Integer.MAX_VALUE};
        for (int level : noLevels) {
            Check.due("scale(0, " + level + ")", air.scale(0, level), NONE);
        }
        int[] noIndexes = {-1, 501, 1000, Integer.MIN_VALUE, Integer.MAX_VALUE};
        for (int index : noIndexes) {
            Check.due("back(0, " + index + ")", air.back(0, index), NONE);
        }
        AirIndex one = Check.told("bands 1 2 3;smooth 0;substance 1 1 0 0 9 9;station 0;");
        Check.due("scale() of a SUBSTANCE that an older text told", one.scale(1, 0), NONE);
        Check.due("back() of it", one.back(1, 0), NONE);
    }
}
