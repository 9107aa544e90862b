/** Promises 4 and 5: text and fault, with TOKENS, TEXT and FAULTS. */
public final class TextTest {
    private static final String HEAD = Texts.HEAD;
    private static final String SUBSTANCE = Texts.SUBSTANCE;
    private static final String STATION = Texts.STATION;
    private static final String PLAIN = Texts.PLAIN;
    private static final int TOKEN = Texts.TOKEN;
    private static final int NUMBER = Texts.NUMBER;
    private static final int ONE_MORE = Texts.ONE_MORE;

    public static void main(String[] args) {
        texts();
        tokens();
        order();
        numbers();
        counts();
        series();
        lengths();
        allStays();
        Check.finish();
    }

    private static void texts() {
        Check.told(PLAIN);
        Check.told("bands 498 499 500;smooth 0;substance 12 12 0 0 999 500;station 2;");
        Check.told("\n bands\n1 2 3\n;smooth 100 ; substance 12 1 0 500 1 500;station 1 ;series 0 0 x ; \n");
        Check.told("bands 001 02 3;smooth 005;substance 01 1 0 0 009 9;station 00;series 00 000 007 x x;");
        Check.told(HEAD + SUBSTANCE + SUBSTANCE + SUBSTANCE + STATION + STATION + STATION + STATION);
        Check.told(HEAD + "substance 1 1 0 0 1 1 2 1 3 2 999 500;" + STATION);
        StringBuilder all = new StringBuilder(HEAD + SUBSTANCE + SUBSTANCE + SUBSTANCE
            + STATION + STATION + STATION + STATION);
        for (int station = 3; station >= 0; station--) {
            for (int substance = 0; substance < 3; substance++) {
                all.append("series ").append(station).append(' ').append(substance).append(" x 5;");
            }
        }
        Check.due("NOW of all series", Check.told(all.toString()).now(0), 2);
        Check.fault(all + "^substance", TOKEN);
        Check.fault(all + "series 0 ^0 5;", NUMBER);
        Check.fault(all + "series ^4 0 5;", NUMBER);
        Check.fault(all + "^x", TOKEN);
        AirIndex air = new AirIndex();
        Check.due("a text without blanks", Check.tell(air, "bands 1 2 3;smooth 5;substance 1 1 0 0 9 9;station 0;"), 4);
        Check.due("text() of an empty tape", air.text(), -1);
        Check.due("fault() of it", air.fault(), TOKEN);
        Check.due("a text again", Check.tell(air, PLAIN), 4);
        Check.due("fault() behind it", air.fault(), 0);
    }

    private static void tokens() {
        Check.fault("^", TOKEN);
        Check.fault("   ^", TOKEN);
        Check.fault("^Bands 1 2 3;", TOKEN);
        Check.fault("^bands1 2 3;", TOKEN);
        Check.fault("^band 1 2 3;", TOKEN);
        Check.fault("^bandss 1 2 3;", TOKEN);
        Check.fault("^cands 1 2 3;", TOKEN);
        Check.fault("bands ^1a 2 3;", TOKEN);
        Check.fault("bands ^a1 2 3;", TOKEN);
        Check.fault("bands ^x 2 3;", TOKEN);
        Check.fault("bands ^0001 2 3;", TOKEN);
        Check.fault("bands ^1234567890123 2 3;", TOKEN);
        Check.fault("bands ^4294967297 2 3;", TOKEN);
        Check.fault("bands ^-1 2 3;", TOKEN);
        Check.fault("bands 1^,2 3;", TOKEN);
        Check.fault("bands 1^\t2 3;", TOKEN);
        Check.fault("bands 1^\r2 3;", TOKEN);
        Check.fault("bands^" + (char) 0 + "1 2 3;", TOKEN);
        Check.fault("bands ^" + (char) 160 + "1 2 3;", TOKEN);
        Check.fault("bands ^" + (char) 255, TOKEN);
        Check.fault(PLAIN + "^'", TOKEN);
        Check.fault(PLAIN + "series 0 0 ^X;", TOKEN);
        Check.fault(PLAIN + "series 0 0 ^xx;", TOKEN);
        Check.fault(PLAIN + "series 0 0 ^xaz;", TOKEN);
        Check.fault(PLAIN + "series 0 0 ^x09;", TOKEN);
        Check.fault(PLAIN + "series 0 0 ^x5;", TOKEN);
        Check.fault(PLAIN + "series 0 0 5 ^5x;", TOKEN);
        char[] around = {'/', ':', '`', '{', '@', '<'};
        for (char sign : around) {
            Check.fault("bands 1^" + sign + " 2 3;", TOKEN);
        }
    }

    private static void order() {
        String[] ends = {"bands", "bands 1", "bands 1 2 3", "bands 1 2 3;", "bands 1 2 3;smooth", HEAD, HEAD + "substance",
            HEAD + "substance 1", HEAD + "substance 1 1 0", HEAD + "substance 1 1 0 0 9 9", HEAD + SUBSTANCE,
            HEAD + SUBSTANCE + "station", HEAD + SUBSTANCE + "station 0", PLAIN + "series", PLAIN + "series 0",
            PLAIN + "series 0 0", PLAIN + "series 0 0 5", PLAIN + "series 0 0 5  \n"};
        for (String text : ends) {
            Check.fault(text + "^", TOKEN);
        }
        Check.fault("^smooth 5;", TOKEN);
        Check.fault("^;", TOKEN);
        Check.fault("bands 1 2^;", TOKEN);
        Check.fault("bands 1 2 3 ^4;", TOKEN);
        Check.fault("bands 1 2 3;^;", TOKEN);
        Check.fault("bands 1 2 3;^bands 1 2 3;", TOKEN);
        Check.fault("bands 1 2 3;smooth ^;", TOKEN);
        Check.fault("bands 1 2 3;smooth 5 ^5;", TOKEN);
        Check.fault("bands 1 2 3;^substance 1 1 0 0 9 9;", TOKEN);
        Check.fault(HEAD + "^station 0;", TOKEN);
        Check.fault(HEAD + "^series 0 0 5;", TOKEN);
        Check.fault(HEAD + "substance 1 1^;", TOKEN);
        Check.fault(HEAD + "substance 1 1 0^;", TOKEN);
        Check.fault(HEAD + "substance 1 1 0 0^;", TOKEN);
        Check.fault(HEAD + "substance 1 1 0 0 9^;", TOKEN);
        Check.fault(HEAD + "substance 1 1 0 0 9 9 10^;", TOKEN);
        Check.fault(HEAD + "substance 1 1 0 0 9 ^x;", TOKEN);
        Check.fault(HEAD + SUBSTANCE + "^series 0 0 5;", TOKEN);
        Check.fault(HEAD + SUBSTANCE + "^smooth 5;", TOKEN);
        Check.fault(PLAIN + "^" + SUBSTANCE, TOKEN);
        Check.fault(HEAD + SUBSTANCE + "station^;", TOKEN);
        Check.fault(HEAD + SUBSTANCE + "station 0 ^0;", TOKEN);
        Check.fault(PLAIN + "series 0 0 5;^" + STATION, TOKEN);
        Check.fault(PLAIN + "series^;", TOKEN);
        Check.fault(PLAIN + "series 0 ^x;", TOKEN);
        Check.fault(PLAIN + "series 0 0^;", TOKEN);
        Check.fault(PLAIN + "series 0 0 5;^;", TOKEN);
    }

    private static void numbers() {
        Check.fault("bands ^0 2 3;", NUMBER);
        Check.fault("bands 1 ^1 3;", NUMBER);
        Check.fault("bands 1 2 ^2;", NUMBER);
        Check.fault("bands 1 2 ^501;", NUMBER);
        Check.fault("bands ^501 502 503;", NUMBER);
        Check.fault("bands 500 ^500 3;", NUMBER);
        Check.fault("bands 1 2 3;smooth ^101;", NUMBER);
        Check.fault(HEAD + "substance ^0 1 0 0 9 9;", NUMBER);
        Check.fault(HEAD + "substance ^13 1 0 0 9 9;", NUMBER);
        Check.fault(HEAD + "substance 12 ^0 0 0 9 9;", NUMBER);
        Check.fault(HEAD + "substance 12 ^13 0 0 9 9;", NUMBER);
        Check.fault(HEAD + "substance 4 ^5 0 0 9 9;", NUMBER);
        Check.fault(HEAD + "substance 1 1 0 ^501 9 9;", NUMBER);
        Check.fault(HEAD + "substance 1 1 9 0 ^9 9;", NUMBER);
        Check.fault(HEAD + "substance 1 1 9 0 ^8 9;", NUMBER);
        Check.fault(HEAD + "substance 1 1 0 9 9 ^8;", NUMBER);
        Check.fault(HEAD + "substance 1 1 0 9 9 9 10 ^8;", NUMBER);
        Check.fault(HEAD + "substance 1 1 0 9 999 9 ^999 10;", NUMBER);
        Check.fault(HEAD + SUBSTANCE + "station ^3;", NUMBER);
        Check.fault(PLAIN + "series ^1 0 5;", NUMBER);
        Check.fault(PLAIN + "series 0 ^1 5;", NUMBER);
    }

    private static void counts() {
        Check.fault(HEAD + SUBSTANCE + SUBSTANCE + SUBSTANCE + "^" + SUBSTANCE, ONE_MORE);
        Check.fault(HEAD + SUBSTANCE + SUBSTANCE + SUBSTANCE + "^substance", ONE_MORE);
        Check.fault(HEAD + SUBSTANCE + SUBSTANCE + SUBSTANCE + "^series", TOKEN);
        Check.fault(HEAD + SUBSTANCE + SUBSTANCE + SUBSTANCE + STATION + "^" + SUBSTANCE, TOKEN);
        Check.fault(PLAIN + STATION + STATION + STATION + "^" + STATION, ONE_MORE);
        Check.fault(PLAIN + STATION + STATION + STATION + "^station", ONE_MORE);
        Check.fault(PLAIN + STATION + STATION + STATION + "series 0 0 5;^" + STATION, TOKEN);
        String five = "substance 1 1 0 0 1 1 2 2 3 3 4 4 ";
        Check.fault(HEAD + five + "^5 5;", ONE_MORE);
        Check.fault(HEAD + five + "^5", ONE_MORE);
        Check.fault(HEAD + five + "^x 5;", TOKEN);
        Check.fault(HEAD + five + "^1000 5;", TOKEN);
        // Of one TOKEN the FAULT that stands first in the list: its LEVEL is not above the one ahead.
        Check.fault(HEAD + five + "^4 5;", NUMBER);
        Check.fault(HEAD + five + "^0 0;", NUMBER);
        StringBuilder reads = new StringBuilder(PLAIN + "series 0 0");
        for (int i = 0; i < 24; i++) {
            reads.append(i % 2 == 0 ? " 5" : " x");
        }
        Check.due("NOW of 24 READS", Check.told(reads + ";").now(0), 24);
        Check.fault(reads + " ^7;", ONE_MORE);
        Check.fault(reads + " ^x;", ONE_MORE);
        Check.fault(reads + " ^series;", TOKEN);
        Check.fault(reads + " ^1000;", TOKEN);
        Check.fault(reads + "^", TOKEN);
    }

    private static void series() {
        String two = HEAD + SUBSTANCE + SUBSTANCE + STATION + STATION;
        Check.fault(two + "series 0 0 5;series 0 ^0 5;", NUMBER);
        Check.fault(two + "series 0 1 5;series 1 0 x;series 0 ^1 5;", NUMBER);
        Check.fault(two + "series 1 1 x;series 1 ^1", NUMBER);
        Check.fault(two + "series 1 1 x;series ^2 1 5;", NUMBER);
        Check.fault(two + "series 1 1 x;series 1 ^2 5;", NUMBER);
        Check.told(two + "series 1 0 5;series 0 1 5;series 1 1 5;series 0 0 5;");
    }

    private static void lengths() {
        int blanks = 600 - PLAIN.length();
        Check.told(PLAIN + " ".repeat(blanks));
        Check.told(" ".repeat(blanks) + PLAIN);
        Check.fault(PLAIN + " ".repeat(blanks) + "^ ", TOKEN);
        Check.fault(PLAIN + " ".repeat(blanks) + "^" + " ".repeat(40), TOKEN);
        Check.fault(" ".repeat(600) + "^", TOKEN);
        Check.fault(" ".repeat(600) + "^" + PLAIN.substring(0, 40), TOKEN);
        Check.fault(" ".repeat(600) + "^X", TOKEN);
        Check.fault(" ".repeat(590) + "^X" + " ".repeat(30), TOKEN);
        // TOKENS that begin ahead of the 600th byte are read whole: a good one leaves the FAULT to that byte.
        Check.fault(PLAIN + " ".repeat(blanks - 1) + "s^tation 0;", TOKEN);
        Check.fault(PLAIN + " ".repeat(blanks - 8) + "station ^0;", TOKEN);
        Check.fault(PLAIN + " ".repeat(blanks - 3) + "^foo1", TOKEN);
        Check.fault(PLAIN + " ".repeat(blanks - 3) + "^seriesx", TOKEN);
        Check.fault(" ".repeat(595) + "bands^ ", TOKEN);
        Check.fault(" ".repeat(596) + "^bandx 1", TOKEN);
        Check.fault(" ".repeat(592) + "bands ^0001", TOKEN);
        Check.fault(" ".repeat(592) + "bands 50^", TOKEN);
        Check.fault(" ".repeat(592) + "bands 50^ ", TOKEN);
        Check.fault(" ".repeat(593) + "bands 5^0", TOKEN);
        Check.fault(" ".repeat(593) + "bands ^501", NUMBER);
        Check.fault(" ".repeat(593) + "bands ^5010", TOKEN);
    }

    private static void allStays() {
        AirIndex air = Check.told("bands 10 20 30;smooth 7;substance 2 1 0 5 9 9;station 1;station 2;series 1 0 4 x 8;");
        air.pass(1);
        air.smooth(8);
        Check.due("a text with a fault", Check.tell(air, "bands 1 2 3;smooth 9;substance 1 1 0 0 9 9;station 9;"), -52);
        Check.due("fault()", air.fault(), 2);
        int[] due = {4, 1, 2, 2, 8, 2, 0};
        for (int what = 0; what < due.length; what++) {
            Check.due("now(" + what + ") behind a fault", air.now(what), due[what]);
        }
        Check.due("scale(0, 0)", air.scale(0, 0), 5);
        Check.due("mean(1, 0, 2)", air.mean(1, 0, 2), 8);
        Check.due("read(1, 0, 0)", air.read(1, 0, 0), 4);
        Check.due("district(2, 0, 1)", air.district(2, 0, 1), 1);
        Check.due("a new text", Check.tell(air, PLAIN), 4);
        int[] anew = {0, 1, 1, 0, 5, 0, 0};
        for (int what = 0; what < anew.length; what++) {
            Check.due("now(" + what + ") of a new text", air.now(what), anew[what]);
        }
        Check.due("undo() behind a new text", air.undo(), AirIndex.NONE);
        air.pass(4);
        Check.due("a READ of an older text", air.read(0, 0, 0), AirIndex.NONE);
        Check.due("a third text", Check.tell(air, HEAD + SUBSTANCE + STATION + STATION + "series 0 0 x x x;"), 6);
        Check.due("a READ of the first text", air.read(1, 0, 0), AirIndex.NONE);
        Check.due("READS in all", air.now(3), 0);
        Check.due("NOW", air.now(0), 3);
        // The same 'series' once more, a shorter one, and fewer points: nothing of the older texts is left.
        Check.due("a fourth text", Check.tell(air, HEAD + SUBSTANCE + STATION + "series 0 0 7;"), 5);
        Check.due("NOW", air.now(0), 1);
        Check.due("a fifth text", Check.tell(air, HEAD + "substance 1 1 0 0 5 50 100 100;" + STATION), 4);
        Check.due("a sixth text", Check.tell(air, HEAD + SUBSTANCE + STATION), 4);
        Check.due("a seventh text", Check.tell(air, HEAD + "substance 1 1 2 2 4 4;" + STATION), 4);
        Check.due("scale(0, 0)", air.scale(0, 0), 2);
        Check.due("scale(0, 999)", air.scale(0, 999), 4);
    }
}
