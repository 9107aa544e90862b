/** Promise 1: a new object. */
public final class NewObjectTest {
    public static void main(String[] args) {
        AirIndex air = new AirIndex();
        int[] due = {0, 1, 1, 0, 50, 0, 0};
        for (int what = 0; what < due.length; what++) {
            Check.due("now(" + what + ") of a new object", air.now(what), due[what]);
        }
        Check.due("fault() ahead of any text", air.fault(), 0);
        for (int level = 0; level <= 999; level++) {
            Check.due("scale(0, " + level + ")", new AirIndex().scale(0, level), Math.min(level, 100));
        }
        Check.due("scale(1, 0)", air.scale(1, 0), AirIndex.NONE);
        Check.due("pass(2)", air.pass(2), 2);
        Check.due("correct(0, 0, 0, 49)", air.correct(0, 0, 0, 49), 1);
        // WINDOW 1 and NEED 1: the HOUR behind it has no MEAN.
        Check.due("mean(0, 0, 0)", air.mean(0, 0, 0), 49);
        Check.due("mean(0, 0, 1)", air.mean(0, 0, 1), AirIndex.NONE);
        Check.due("read(1, 0, 0)", air.read(1, 0, 0), AirIndex.NONE);
        Check.due("district(0, 0, 3)", air.district(0, 0, 3), 1);
        Check.due("district(1, 0, 3)", air.district(1, 0, 3), 0);
        Check.due("district(2, 0, 3)", air.district(2, 0, 3), 0);
        bands();
        twoObjects();
        Check.finish();
    }

    private static void bands() {
        AirIndex air = new AirIndex();
        air.pass(1);
        int[][] due = {{49, 0}, {50, 1}, {99, 1}, {100, 2}, {999, 2}};
        for (int[] row : due) {
            air.correct(0, 0, 0, row[0]);
            Check.due("BAND at " + row[0], air.index(0, 0, 2), row[1]);
        }
        Check.due("keeps(0, 0, 0)", air.keeps(0, 0, 0), 49);
        Check.due("keeps(0, 0, 1)", air.keeps(0, 0, 1), 99);
        Check.due("keeps(0, 0, 2): B 150 is above all", air.keeps(0, 0, 2), 999);
    }

    private static void twoObjects() {
        AirIndex one = new AirIndex();
        AirIndex other = new AirIndex();
        one.pass(3);
        one.smooth(7);
        one.feed(1, 2, 3, 4, 5);
        Check.due("NOW of another object", other.now(0), 0);
        Check.due("A of another object", other.now(4), 50);
        Check.due("tape of another object", other.now(6), 0);
    }
}
