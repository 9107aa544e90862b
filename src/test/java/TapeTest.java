/** Promises 2 and 3: feed and end. */
public final class TapeTest {
    public static void main(String[] args) {
        lengths();
        bytesInOrder();
        ends();
        Check.finish();
    }

    private static void lengths() {
        AirIndex air = new AirIndex();
        for (int bytes = 20; bytes <= 640; bytes += 20) {
            Check.due("feed()", air.feed(-1, 0, Integer.MIN_VALUE, Integer.MAX_VALUE, 5), bytes);
            Check.due("now(6)", air.now(6), bytes);
        }
        Check.due("feed() past 640", air.feed(1, 2, 3, 4, 5), AirIndex.NONE);
        Check.due("now(6) behind it", air.now(6), 640);
        Check.due("end(621)", air.end(621), true);
        Check.due("feed() at 621", air.feed(1, 2, 3, 4, 5), AirIndex.NONE);
        Check.due("now(6) behind that", air.now(6), 621);
        Check.due("end(620)", air.end(620), true);
        Check.due("feed() at 620", air.feed(1, 2, 3, 4, 5), 640);
    }

    /** Every place of the five numbers matters: a sign that is no TOKEN is found just where it stands. */
    private static void bytesInOrder() {
        for (int place = 0; place < 20; place++) {
            AirIndex air = new AirIndex();
            StringBuilder text = new StringBuilder("                    ");
            text.setCharAt(place, (char) 200);
            Check.due("a wrong byte at " + place, Check.tell(air, text.toString()), -1 - place);
        }
        AirIndex air = new AirIndex();
        Check.due("feed()", air.feed(0x62616E64, 0x73203120, 0x32203320, 0x3B736D6F, 0x6F746820), 20);
        Check.due("end(19)", air.end(19), true);
        Check.due("feed()", air.feed(0x20352020, 0x20202020, 0x20202020, 0x20202020, 0x20202020), 39);
        Check.due("the text goes on behind a cut", air.text(), -40);
        Check.due("fault()", air.fault(), 1);
    }

    private static void ends() {
        AirIndex air = new AirIndex();
        Check.due("end(0) of an empty tape", air.end(0), true);
        Check.due("end(1) of an empty tape", air.end(1), false);
        air.feed(1, 2, 3, 4, 5);
        int[] refused = {-1, 21, Integer.MIN_VALUE, Integer.MAX_VALUE};
        for (int n : refused) {
            Check.due("end(" + n + ")", air.end(n), false);
            Check.due("now(6)", air.now(6), 20);
        }
        Check.due("end(20)", air.end(20), true);
        Check.due("now(6)", air.now(6), 20);
        Check.due("end(7)", air.end(7), true);
        Check.due("now(6)", air.now(6), 7);
        Check.due("end(8)", air.end(8), false);
        Check.due("end(0)", air.end(0), true);
        Check.due("now(6)", air.now(6), 0);
    }
}
