/** Promises 4 and 5: text and fault, with TOKENS, TEXT and FAULTS. */
public final class TextTest {
    private static final String HEAD = "bands 1 2 3;smooth 5;";
    private static final String SUBSTANCE = "substance 1 1 0 0 9 9;";
    private static final String STATION = "station 0;";
    private static final String PLAIN = HEAD + SUBSTANCE + STATION;
    private static final int TOKEN = 1;
    private static final int NUMBER = 2;
    private static final int ONE_MORE = 3;

    public static void main(String[] args) {
        texts();
        tokens();
        order();
        numbers();
        counts();
        series();
        lengths();
        allStays();
        Check.finish();
    }

    /** The FAULT stands where the sign ^ does, which is taken out. */
    private static void fault(String marked, int kind) {
        int place = marked.indexOf('^');
        String text = marked.substring(0, place) + marked.substring(place + 1);
        AirIndex air = new AirIndex();
        Check.due("text() of " + marked, Check.tell(air, text), -1 - place);
        Check.due("fault() of " + marked, air.fault(), kind);
        Check.due("tape behind " + marked, air.now(6), 0);
    }

    private static void texts() {
        Check.told(PLAIN);
        Check.told("bands 498 499 500;smooth 0;substance 12 12 0 0 999 500;station 2;");
        Check.told("\n bands\n1 2 3\n;smooth 100 ; substance 12 1 0 500 1 500;station 1 ;series 0 0 x ; \n");
        Check.told("bands 001 02 3;smooth 005;substance 01 1 0 0 009 9;station 00;series 00 000 007 x x;");
        Check.told(HEAD + SUBSTANCE + SUBSTANCE + SUBSTANCE + STATION + STATION + STATION + STATION);
        Check.told(HEAD + "substance 1 1 0 0 1 1 2 1 3 2 999 500;" + STATION);
        StringBuilder all = new StringBuilder(HEAD + SUBSTANCE + SUBSTANCE + SUBSTANCE
            + STATION + STATION + STATION + STATION);
        for (int station = 3; station >= 0; station--) {
            for (int substance = 0; substance < 3; substance++) {
                all.append("series ").append(station).append(' ').append(substance).append(" x 5;");
            }
        }
        Check.due("NOW of all series", Check.told(all.toString()).now(0), 2);
        fault(all + "^substance", TOKEN);
        fault(all + "series 0 ^0 5;", NUMBER);
        fault(all + "series ^4 0 5;", NUMBER);
        fault(all + "^x", TOKEN);
        AirIndex air = new AirIndex();
        Check.due("a text without blanks", Check.tell(air, "bands 1 2 3;smooth 5;substance 1 1 0 0 9 9;station 0;"), 4);
        Check.due("text() of an empty tape", air.text(), -1);
        Check.due("fault() of it", air.fault(), TOKEN);
        Check.due("a text again", Check.tell(air, PLAIN), 4);
        Check.due("fault() behind it", air.fault(), 0);
    }

    private static void tokens() {
        fault("^", TOKEN);
        fault("   ^", TOKEN);
        fault("^Bands 1 2 3;", TOKEN);
        fault("^bands1 2 3;", TOKEN);
        fault("^band 1 2 3;", TOKEN);
        fault("^bandss 1 2 3;", TOKEN);
        fault("^cands 1 2 3;", TOKEN);
        fault("bands ^1a 2 3;", TOKEN);
        fault("bands ^a1 2 3;", TOKEN);
        fault("bands ^x 2 3;", TOKEN);
        fault("bands ^0001 2 3;", TOKEN);
        fault("bands ^1234567890123 2 3;", TOKEN);
        fault("bands ^4294967297 2 3;", TOKEN);
        fault("bands ^-1 2 3;", TOKEN);
        fault("bands 1^,2 3;", TOKEN);
        fault("bands 1^\t2 3;", TOKEN);
        fault("bands 1^\r2 3;", TOKEN);
        fault("bands^" + (char) 0 + "1 2 3;", TOKEN);
        fault("bands ^" + (char) 160 + "1 2 3;", TOKEN);
        fault("bands ^" + (char) 255, TOKEN);
        fault(PLAIN + "^'", TOKEN);
        fault(PLAIN + "series 0 0 ^X;", TOKEN);
        fault(PLAIN + "series 0 0 ^xx;", TOKEN);
        fault(PLAIN + "series 0 0 ^xaz;", TOKEN);
        fault(PLAIN + "series 0 0 ^x09;", TOKEN);
        fault(PLAIN + "series 0 0 ^x5;", TOKEN);
        fault(PLAIN + "series 0 0 5 ^5x;", TOKEN);
        char[] around = {'/', ':', '`', '{', '@', '<'};
        for (char sign : around) {
            fault("bands 1^" + sign + " 2 3;", TOKEN);
        }
    }

    private static void order() {
        String[] ends = {"bands", "bands 1", "bands 1 2 3", "bands 1 2 3;", "bands 1 2 3;smooth", HEAD, HEAD + "substance",
            HEAD + "substance 1", HEAD + "substance 1 1 0", HEAD + "substance 1 1 0 0 9 9", HEAD + SUBSTANCE,
            HEAD + SUBSTANCE + "station", HEAD + SUBSTANCE + "station 0", PLAIN + "series", PLAIN + "series 0",
            PLAIN + "series 0 0", PLAIN + "series 0 0 5", PLAIN + "series 0 0 5  \n"};
        for (String text : ends) {
            fault(text + "^", TOKEN);
        }
        fault("^smooth 5;", TOKEN);
        fault("^;", TOKEN);
        fault("bands 1 2^;", TOKEN);
        fault("bands 1 2 3 ^4;", TOKEN);
        fault("bands 1 2 3;^;", TOKEN);
        fault("bands 1 2 3;^bands 1 2 3;", TOKEN);
        fault("bands 1 2 3;smooth ^;", TOKEN);
        fault("bands 1 2 3;smooth 5 ^5;", TOKEN);
        fault("bands 1 2 3;^substance 1 1 0 0 9 9;", TOKEN);
        fault(HEAD + "^station 0;", TOKEN);
        fault(HEAD + "^series 0 0 5;", TOKEN);
        fault(HEAD + "substance 1 1^;", TOKEN);
        fault(HEAD + "substance 1 1 0^;", TOKEN);
        fault(HEAD + "substance 1 1 0 0^;", TOKEN);
        fault(HEAD + "substance 1 1 0 0 9^;", TOKEN);
        fault(HEAD + "substance 1 1 0 0 9 9 10^;", TOKEN);
        fault(HEAD + "substance 1 1 0 0 9 ^x;", TOKEN);
        fault(HEAD + SUBSTANCE + "^series 0 0 5;", TOKEN);
        fault(HEAD + SUBSTANCE + "^smooth 5;", TOKEN);
        fault(PLAIN + "^" + SUBSTANCE, TOKEN);
        fault(HEAD + SUBSTANCE + "station^;", TOKEN);
        fault(HEAD + SUBSTANCE + "station 0 ^0;", TOKEN);
        fault(PLAIN + "series 0 0 5;^" + STATION, TOKEN);
        fault(PLAIN + "series^;", TOKEN);
        fault(PLAIN + "series 0 ^x;", TOKEN);
        fault(PLAIN + "series 0 0^;", TOKEN);
        fault(PLAIN + "series 0 0 5;^;", TOKEN);
    }

    private static void numbers() {
        fault("bands ^0 2 3;", NUMBER);
        fault("bands 1 ^1 3;", NUMBER);
        fault("bands 1 2 ^2;", NUMBER);
        fault("bands 1 2 ^501;", NUMBER);
        fault("bands ^501 502 503;", NUMBER);
        fault("bands 500 ^500 3;", NUMBER);
        fault("bands 1 2 3;smooth ^101;", NUMBER);
        fault(HEAD + "substance ^0 1 0 0 9 9;", NUMBER);
        fault(HEAD + "substance ^13 1 0 0 9 9;", NUMBER);
        fault(HEAD + "substance 12 ^0 0 0 9 9;", NUMBER);
        fault(HEAD + "substance 12 ^13 0 0 9 9;", NUMBER);
        fault(HEAD + "substance 4 ^5 0 0 9 9;", NUMBER);
        fault(HEAD + "substance 1 1 0 ^501 9 9;", NUMBER);
        fault(HEAD + "substance 1 1 9 0 ^9 9;", NUMBER);
        fault(HEAD + "substance 1 1 9 0 ^8 9;", NUMBER);
        fault(HEAD + "substance 1 1 0 9 9 ^8;", NUMBER);
        fault(HEAD + "substance 1 1 0 9 9 9 10 ^8;", NUMBER);
        fault(HEAD + "substance 1 1 0 9 999 9 ^999 10;", NUMBER);
        fault(HEAD + SUBSTANCE + "station ^3;", NUMBER);
        fault(PLAIN + "series ^1 0 5;", NUMBER);
        fault(PLAIN + "series 0 ^1 5;", NUMBER);
    }

    private static void counts() {
        fault(HEAD + SUBSTANCE + SUBSTANCE + SUBSTANCE + "^" + SUBSTANCE, ONE_MORE);
        fault(HEAD + SUBSTANCE + SUBSTANCE + SUBSTANCE + "^substance", ONE_MORE);
        fault(HEAD + SUBSTANCE + SUBSTANCE + SUBSTANCE + "^series", TOKEN);
        fault(HEAD + SUBSTANCE + SUBSTANCE + SUBSTANCE + STATION + "^" + SUBSTANCE, TOKEN);
        fault(PLAIN + STATION + STATION + STATION + "^" + STATION, ONE_MORE);
        fault(PLAIN + STATION + STATION + STATION + "^station", ONE_MORE);
        fault(PLAIN + STATION + STATION + STATION + "series 0 0 5;^" + STATION, TOKEN);
        String five = "substance 1 1 0 0 1 1 2 2 3 3 4 4 ";
        fault(HEAD + five + "^5 5;", ONE_MORE);
        fault(HEAD + five + "^5", ONE_MORE);
        fault(HEAD + five + "^x 5;", TOKEN);
        fault(HEAD + five + "^1000 5;", TOKEN);
        // Of one TOKEN the FAULT that stands first in the list: its LEVEL is not above the one ahead.
        fault(HEAD + five + "^4 5;", NUMBER);
        fault(HEAD + five + "^0 0;", NUMBER);
        StringBuilder reads = new StringBuilder(PLAIN + "series 0 0");
        for (int i = 0; i < 24; i++) {
            reads.append(i % 2 == 0 ? " 5" : " x");
        }
        Check.due("NOW of 24 READS", Check.told(reads + ";").now(0), 24);
        fault(reads + " ^7;", ONE_MORE);
        fault(reads + " ^x;", ONE_MORE);
        fault(reads + " ^series;", TOKEN);
        fault(reads + " ^1000;", TOKEN);
        fault(reads + "^", TOKEN);
    }

    private static void series() {
        String two = HEAD + SUBSTANCE + SUBSTANCE + STATION + STATION;
        fault(two + "series 0 0 5;series 0 ^0 5;", NUMBER);
        fault(two + "series 0 1 5;series 1 0 x;series 0 ^1 5;", NUMBER);
        fault(two + "series 1 1 x;series 1 ^1", NUMBER);
        fault(two + "series 1 1 x;series ^2 1 5;", NUMBER);
        fault(two + "series 1 1 x;series 1 ^2 5;", NUMBER);
        Check.told(two + "series 1 0 5;series 0 1 5;series 1 1 5;series 0 0 5;");
    }

    private static void lengths() {
        int blanks = 600 - PLAIN.length();
        Check.told(PLAIN + " ".repeat(blanks));
        Check.told(" ".repeat(blanks) + PLAIN);
        fault(PLAIN + " ".repeat(blanks) + "^ ", TOKEN);
        fault(PLAIN + " ".repeat(blanks) + "^" + " ".repeat(40), TOKEN);
        fault(" ".repeat(600) + "^", TOKEN);
        fault(" ".repeat(600) + "^" + PLAIN.substring(0, 40), TOKEN);
        fault(" ".repeat(600) + "^X", TOKEN);
        fault(" ".repeat(590) + "^X" + " ".repeat(30), TOKEN);
        // TOKENS that begin ahead of the 600th byte are read whole: a good one leaves the FAULT to that byte.
        fault(PLAIN + " ".repeat(blanks - 1) + "s^tation 0;", TOKEN);
        fault(PLAIN + " ".repeat(blanks - 8) + "station ^0;", TOKEN);
        fault(PLAIN + " ".repeat(blanks - 3) + "^foo1", TOKEN);
        fault(PLAIN + " ".repeat(blanks - 3) + "^seriesx", TOKEN);
        fault(" ".repeat(595) + "bands^ ", TOKEN);
        fault(" ".repeat(596) + "^bandx 1", TOKEN);
        fault(" ".repeat(592) + "bands ^0001", TOKEN);
        fault(" ".repeat(592) + "bands 50^", TOKEN);
        fault(" ".repeat(592) + "bands 50^ ", TOKEN);
        fault(" ".repeat(593) + "bands 5^0", TOKEN);
        fault(" ".repeat(593) + "bands ^501", NUMBER);
        fault(" ".repeat(593) + "bands ^5010", TOKEN);
    }

    private static void allStays() {
        AirIndex air = Check.told("bands 10 20 30;smooth 7;substance 2 1 0 5 9 9;station 1;station 2;series 1 0 4 x 8;");
        air.pass(1);
        air.smooth(8);
        Check.due("a text with a fault", Check.tell(air, "bands 1 2 3;smooth 9;substance 1 1 0 0 9 9;station 9;"), -52);
        Check.due("fault()", air.fault(), 2);
        int[] due = {4, 1, 2, 2, 8, 2, 0};
        for (int what = 0; what < due.length; what++) {
            Check.due("now(" + what + ") behind a fault", air.now(what), due[what]);
        }
        Check.due("scale(0, 0)", air.scale(0, 0), 5);
        Check.due("mean(1, 0, 2)", air.mean(1, 0, 2), 8);
        Check.due("read(1, 0, 0)", air.read(1, 0, 0), 4);
        Check.due("district(2, 0, 1)", air.district(2, 0, 1), 1);
        Check.due("a new text", Check.tell(air, PLAIN), 4);
        int[] anew = {0, 1, 1, 0, 5, 0, 0};
        for (int what = 0; what < anew.length; what++) {
            Check.due("now(" + what + ") of a new text", air.now(what), anew[what]);
        }
        Check.due("undo() behind a new text", air.undo(), AirIndex.NONE);
        air.pass(4);
        Check.due("a READ of an older text", air.read(0, 0, 0), AirIndex.NONE);
        Check.due("a third text", Check.tell(air, HEAD + SUBSTANCE + STATION + STATION + "series 0 0 x x x;"), 6);
        Check.due("a READ of the first text", air.read(1, 0, 0), AirIndex.NONE);
        Check.due("READS in all", air.now(3), 0);
        Check.due("NOW", air.now(0), 3);
        // The same 'series' once more, a shorter one, and fewer points: nothing of the older texts is left.
        Check.due("a fourth text", Check.tell(air, HEAD + SUBSTANCE + STATION + "series 0 0 7;"), 5);
        Check.due("NOW", air.now(0), 1);
        Check.due("a fifth text", Check.tell(air, HEAD + "substance 1 1 0 0 5 50 100 100;" + STATION), 4);
        Check.due("a sixth text", Check.tell(air, HEAD + SUBSTANCE + STATION), 4);
        Check.due("a seventh text", Check.tell(air, HEAD + "substance 1 1 2 2 4 4;" + STATION), 4);
        Check.due("scale(0, 0)", air.scale(0, 0), 2);
        Check.due("scale(0, 999)", air.scale(0, 999), 4);
    }
}
