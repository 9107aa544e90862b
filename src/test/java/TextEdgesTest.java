/** The sentences on TOKENS, TEXT and FAULTS that name a boundary: what is just taken, and what is just refused. */
public final class TextEdgesTest {
    private static final String HEAD = Texts.HEAD;
    private static final String SUBSTANCE = Texts.SUBSTANCE;
    private static final String STATION = Texts.STATION;
    private static final String PLAIN = Texts.PLAIN;
    private static final String SERIES = PLAIN + "series 0 0 ";
    private static final int TOKEN = Texts.TOKEN;
    private static final int NUMBER = Texts.NUMBER;
    private static final int ONE_MORE = Texts.ONE_MORE;

    public static void main(String[] args) {
        blanks();
        words();
        digits();
        semicolon();
        goesOn();
        atMost600Bytes();
        whatMustCome();
        bands();
        share();
        windowAndNeed();
        levels();
        indexes();
        points();
        substancesAndStations();
        districts();
        toldOnce();
        reads();
        firstAlongTheText();
        atTheEnd();
        aheadOf600();
        numbersNotAsTold();
        oneMore();
        Check.finish();
    }

    private static void blanks() {
        Check.sentence("TOKENS of a text, with blanks (32, 10) between them or not");
        String text = SERIES + "x 5;";
        Check.told(text);
        Check.told(text.replace(" ", "\n"));
        Check.told(text.replace(" ", " \n ").replace(";", "\n;"));
        Check.told(text.replace(";", " ; "));
        Check.told("\n \n" + text + " \n\n");
        for (int sign = 0; sign < 256; sign++) {
            String between = SERIES + "5" + (char) sign;
            if (sign == 32 || sign == 10) {
                Check.told(between + "x;");
            } else if (!isLetter(sign) && !isDigit(sign) && sign != ';') {
                Check.fault(SERIES + "5^" + (char) sign + "x;", TOKEN);
                Check.fault(PLAIN + "^" + (char) sign + "series 0 0 5;", TOKEN);
                Check.fault("^" + (char) sign + PLAIN, TOKEN);
                Check.fault(PLAIN + "^" + (char) sign, TOKEN);
            }
        }
    }

    private static boolean isLetter(int sign) {
        return sign >= 'a' && sign <= 'z';
    }

    private static boolean isDigit(int sign) {
        return sign >= '0' && sign <= '9';
    }

    /** A WORD with one letter less, one more, one other or a capital one is a WORD that can't come, or no TOKEN. */
    private static void words() {
        Check.sentence("WORDS: small letters");
        String[][] lines = {{"", "bands", " 1 2 3;"}, {"bands 1 2 3;", "smooth", " 5;"},
            {HEAD, "substance", " 1 1 0 0 9 9;"}, {HEAD + SUBSTANCE, "station", " 0;"}, {PLAIN, "series", " 0 0 5;"},
            {SERIES, "x", ";"}};
        for (String[] line : lines) {
            String word = line[1];
            String shorter = word.substring(1);
            Check.fault(line[0] + "^" + word + "a" + line[2], TOKEN);
            Check.fault(line[0] + "^" + word + "z" + line[2], TOKEN);
            Check.fault(line[0] + "^a" + word + line[2], TOKEN);
            Check.fault(line[0] + "^" + word.toUpperCase() + line[2], TOKEN);
            Check.fault(line[0] + "^" + word.toUpperCase().charAt(0) + shorter + line[2], TOKEN);
            for (int i = 0; i < word.length(); i++) {
                String other = word.substring(0, i) + (char) (word.charAt(i) + 1) + word.substring(i + 1);
                Check.fault(line[0] + "^" + other + line[2], TOKEN);
            }
            if (!shorter.isEmpty()) {
                Check.fault(line[0] + "^" + shorter + line[2], TOKEN);
                Check.fault(line[0] + "^" + word.substring(0, word.length() - 1) + line[2], TOKEN);
            }
        }
    }

    private static void digits() {
        Check.sentence("NUMBERS: 1 to 3 digits");
        String[] taken = {"0", "9", "00", "10", "99", "000", "007", "100", "999"};
        for (String number : taken) {
            Check.due("read() of " + number, Check.told(SERIES + number + ";").read(0, 0, 0), Integer.parseInt(number));
        }
        // The last three would be a READ, did an int or a long wrap around.
        String[] refused = {"0000", "0007", "1000", "9999", "00000", "5".repeat(40), "4294967296", "4294967303",
            "18446744073709551623"};
        for (String number : refused) {
            Check.fault(SERIES + "^" + number + ";", TOKEN);
            Check.fault("bands ^" + number + " 2 3;", TOKEN);
        }
    }

    private static void semicolon() {
        Check.sentence("the sign ;");
        Check.told(PLAIN);
        Check.told(PLAIN.replace(";", "\n; "));
        // The signs next to it are no TOKEN; one ; more, or where a NUMBER is due, can't come.
        Check.fault("bands 1 2 3^:smooth 5;", TOKEN);
        Check.fault("bands 1 2 3^<smooth 5;", TOKEN);
        Check.fault("bands 1 2 3;^;smooth 5;", TOKEN);
        Check.fault(PLAIN + "^;", TOKEN);
        Check.fault("bands^;1 2 3;", TOKEN);
        Check.fault("^;" + PLAIN, TOKEN);
    }

    private static void goesOn() {
        Check.sentence("(A WORD, NUMBER goes on as long as small letters and digits do; what is not as told is no TOKEN.)");
        for (int sign = 0; sign < 256; sign++) {
            behindOne("x", sign, isLetter(sign) || isDigit(sign));
            behindOne("5", sign, isLetter(sign));
            behindOne("555", sign, isLetter(sign) || isDigit(sign));
            if (isDigit(sign)) {
                Check.told(SERIES + "5" + (char) sign + ";");
                Check.told(SERIES + "55" + (char) sign + ";");
            }
        }
        Check.fault("^bands1 2 3;", TOKEN);
        Check.fault("bands 1 2 3;^smooth5;", TOKEN);
        Check.fault("bands ^1bands 2 3;", TOKEN);
        Check.fault(PLAIN + "^series0 0 5;", TOKEN);
        Check.fault(SERIES + "^xx;", TOKEN);
        Check.fault(SERIES + "^x5;", TOKEN);
        Check.fault(SERIES + "^5x;", TOKEN);
    }

    /** A READ and a sign behind it: one that goes on with it spoils it, any other but a blank has its FAULT itself. */
    private static void behindOne(String read, int sign, boolean spoils) {
        if (spoils) {
            Check.fault(SERIES + "^" + read + (char) sign + ";", TOKEN);
        } else if (sign == ';') {
            Check.fault(SERIES + read + ";^;", TOKEN);
        } else if (sign == 32 || sign == 10) {
            Check.told(SERIES + read + (char) sign + ";");
        } else if (!isDigit(sign)) {
            Check.fault(SERIES + read + "^" + (char) sign + ";", TOKEN);
        }
    }

    private static void atMost600Bytes() {
        Check.sentence("A TEXT has at most 600 bytes");
        Check.told(Texts.filledTo(599, PLAIN));
        Check.told(Texts.filledTo(600, PLAIN));
        Check.told(" ".repeat(600 - PLAIN.length()) + PLAIN);
        Check.fault(Texts.filledTo(600, PLAIN) + "^ ", TOKEN);
        Check.fault(Texts.filledTo(600, PLAIN) + "^\n", TOKEN);
        Check.fault(Texts.filledTo(600, PLAIN) + "^" + " ".repeat(40), TOKEN);
        Check.fault(" ".repeat(601 - PLAIN.length()) + PLAIN.substring(0, PLAIN.length() - 1) + "^;", TOKEN);
        Check.fault(Texts.filledTo(600, PLAIN) + "^series 0 0 5;", TOKEN);
    }

    /** The lines of a whole text stand in one order; all that stands without braces must come. */
    private static void whatMustCome() {
        Check.sentence("'bands' B B B ; 'smooth' A ; 'substance' WINDOW NEED LEVEL INDEX LEVEL INDEX { LEVEL INDEX } ;"
            + " { 'substance' .. } 'station' DISTRICT ; { 'station' .. } { 'series' STATION SUBSTANCE READ { READ } ; }.");
        Check.due("LINES of a text without a 'series'", Check.tell(new AirIndex(), PLAIN), 4);
        Check.fault("^smooth 5;" + SUBSTANCE + STATION, TOKEN);
        Check.fault("bands 1 2 3;^" + SUBSTANCE + STATION, TOKEN);
        Check.fault(HEAD + "^" + STATION, TOKEN);
        Check.fault(HEAD + SUBSTANCE + "^series 0 0 5;", TOKEN);
        Check.fault(HEAD + SUBSTANCE + "^", TOKEN);
        Check.fault("bands 1 2 3;^bands 1 2 3;", TOKEN);
        Check.fault(HEAD + "^smooth 5;", TOKEN);
        Check.fault(HEAD + SUBSTANCE + "^smooth 5;", TOKEN);
        Check.fault(PLAIN + "^" + SUBSTANCE, TOKEN);
        Check.fault(PLAIN + "^bands 1 2 3;", TOKEN);
        Check.fault(SERIES + "5;^" + STATION, TOKEN);
        Check.fault(SERIES + "5;^" + SUBSTANCE, TOKEN);
        Check.fault(PLAIN + "^;", TOKEN);
        Check.fault("bands 1 2^;", TOKEN);
        Check.fault("bands 1 2 3 ^4;", TOKEN);
        Check.fault("bands 1 2 3;smooth^;", TOKEN);
        Check.fault("bands 1 2 3;smooth 5 ^6;", TOKEN);
        Check.fault(HEAD + "substance 1^;", TOKEN);
        Check.fault(HEAD + "substance 1 1^;", TOKEN);
        Check.fault(HEAD + SUBSTANCE + "station^;", TOKEN);
        Check.fault(HEAD + SUBSTANCE + "station 0 ^0;", TOKEN);
        Check.fault(PLAIN + "series 0^;", TOKEN);
        Check.fault(SERIES + "^;", TOKEN);
        Check.fault(PLAIN + "series ^x 0 5;", TOKEN);
        Check.fault(PLAIN + "series 0 ^x 5;", TOKEN);
    }

    private static void bands() {
        Check.sentence("B 1 to 500, each above the one ahead");
        String rest = ";smooth 5;" + SUBSTANCE + STATION;
        String[] taken = {"1 2 3", "1 2 500", "1 499 500", "498 499 500"};
        for (String three : taken) {
            Check.told("bands " + three + rest);
        }
        String[] refused = {"^0 2 3", "^501 502 503", "^999 1 2", "1 ^0 3", "1 ^1 3", "2 ^1 3", "1 ^501 502", "500 ^500 501",
            "500 ^501 502", "1 2 ^0", "1 2 ^1", "1 2 ^2", "5 7 ^6", "5 7 ^7", "498 499 ^501", "499 500 ^500", "499 500 ^501"};
        for (String three : refused) {
            Check.fault("bands " + three + rest, NUMBER);
        }
    }

    private static void share() {
        Check.sentence("A 0 to 100");
        for (int share = 0; share <= 100; share++) {
            AirIndex air = Check.told("bands 1 2 3;smooth " + share + ";" + SUBSTANCE + STATION);
            Check.due("A", air.now(4), share);
        }
        Check.fault("bands 1 2 3;smooth ^101;" + SUBSTANCE + STATION, NUMBER);
        Check.fault("bands 1 2 3;smooth ^999;" + SUBSTANCE + STATION, NUMBER);
    }

    private static void windowAndNeed() {
        Check.sentence("WINDOW 1 to 12, NEED 1 to WINDOW");
        for (int window = 1; window <= 12; window++) {
            for (int need = 1; need <= window; need++) {
                Check.told(HEAD + "substance " + window + " " + need + " 0 0 9 9;" + STATION);
            }
            Check.fault(HEAD + "substance " + window + " ^0 0 0 9 9;" + STATION, NUMBER);
            Check.fault(HEAD + "substance " + window + " ^" + (window + 1) + " 0 0 9 9;" + STATION, NUMBER);
        }
        Check.fault(HEAD + "substance ^0 1 0 0 9 9;" + STATION, NUMBER);
        Check.fault(HEAD + "substance ^0 0 0 0 9 9;" + STATION, NUMBER);
        Check.fault(HEAD + "substance ^13 1 0 0 9 9;" + STATION, NUMBER);
        Check.fault(HEAD + "substance ^13 13 0 0 9 9;" + STATION, NUMBER);
        Check.fault(HEAD + "substance ^999 1 0 0 9 9;" + STATION, NUMBER);
    }

    /** Behind each of one to four points: the next LEVEL just above is taken, a like one and a lesser one are not. */
    private static void levels() {
        Check.sentence("LEVEL 0 to 999, each above the one ahead");
        Check.told(HEAD + "substance 1 1 0 0 999 9;" + STATION);
        Check.told(HEAD + "substance 1 1 998 0 999 9;" + STATION);
        Check.told(HEAD + "substance 1 1 0 0 1 0 2 0 3 0 999 0;" + STATION);
        Check.fault(HEAD + "substance 1 1 999 0 ^999 9;" + STATION, NUMBER);
        Check.fault(HEAD + "substance 1 1 999 0 ^0 9;" + STATION, NUMBER);
        StringBuilder line = new StringBuilder(HEAD + "substance 1 1 10 0 ");
        for (int level = 11; level <= 14; level++) {
            Check.fault(line + "^" + (level - 1) + " 0;" + STATION, NUMBER);
            Check.fault(line + "^" + (level - 2) + " 0;" + STATION, NUMBER);
            Check.fault(line + "^0 0;" + STATION, NUMBER);
            Check.fault(line + "^1000 0;" + STATION, TOKEN);
            line.append(level).append(" 0 ");
            Check.told(line + ";" + STATION);
        }
    }

    /** At each of five points: an INDEX like the one ahead is taken, one less is not. */
    private static void indexes() {
        Check.sentence("INDEX 0 to 500, each no less than the one ahead");
        Check.told(HEAD + "substance 1 1 0 0 1 0;" + STATION);
        Check.told(HEAD + "substance 1 1 0 500 1 500 2 500 3 500 4 500;" + STATION);
        Check.told(HEAD + "substance 1 1 0 0 1 500;" + STATION);
        Check.told(HEAD + "substance 1 1 0 1 1 2 2 3 3 4 4 5;" + STATION);
        StringBuilder line = new StringBuilder(HEAD + "substance 1 1 ");
        for (int level = 0; level < 5; level++) {
            Check.fault(line + "" + level + " ^501 900 501;" + STATION, NUMBER);
            Check.fault(line + "" + level + " ^999 900 999;" + STATION, NUMBER);
            if (level > 0) {
                Check.fault(line + "" + level + " ^6 900 9;" + STATION, NUMBER);
                Check.fault(line + "" + level + " ^0 900 9;" + STATION, NUMBER);
            }
            line.append(level).append(" 7 ");
        }
    }

    private static void points() {
        Check.sentence("2 to 5 points of both");
        Check.fault(HEAD + "substance 1 1^;" + STATION, TOKEN);
        Check.fault(HEAD + "substance 1 1 0^;" + STATION, TOKEN);
        Check.fault(HEAD + "substance 1 1 0 0^;" + STATION, TOKEN);
        StringBuilder line = new StringBuilder(HEAD + "substance 1 1 0 0");
        for (int points = 2; points <= 5; points++) {
            int level = points * 10;
            Check.fault(line + " " + level + "^;" + STATION, TOKEN);
            line.append(' ').append(level).append(' ').append(points);
            AirIndex air = Check.told(line + ";" + STATION);
            Check.due("SUB at the last point", air.scale(0, level), points);
            Check.due("SUB above the last point", air.scale(0, 999), points);
        }
        Check.fault(line + " ^60 6;" + STATION, ONE_MORE);
    }

    private static void substancesAndStations() {
        Check.sentence("3 SUBSTANCES, 4 STATIONS at most, numbered from 0");
        for (int substances = 1; substances <= 3; substances++) {
            for (int stations = 1; stations <= 4; stations++) {
                AirIndex air = Check.told(Texts.office(substances, stations) + "series " + (stations - 1) + " "
                    + (substances - 1) + " 7;");
                Check.due("SUBSTANCES", air.now(1), substances);
                Check.due("STATIONS", air.now(2), stations);
                Check.due("READ of the last ones", air.read(stations - 1, substances - 1, 0), 7);
                Check.due("SUB of a STATION that is not there", air.sub(stations, 0, 0), AirIndex.NONE);
                Check.due("scale() of a SUBSTANCE that is not there", air.scale(substances, 0), AirIndex.NONE);
            }
            Check.fault(Texts.office(substances, 4) + "^" + STATION, ONE_MORE);
        }
        Check.fault(HEAD + "^" + STATION, TOKEN);
        Check.fault(HEAD + SUBSTANCE + "^", TOKEN);
        Check.fault(Texts.office(3, 0) + "^" + SUBSTANCE + STATION, ONE_MORE);
    }

    private static void districts() {
        Check.sentence("DISTRICT 0 to 2");
        for (int district = 0; district <= 2; district++) {
            AirIndex air = Check.told(HEAD + SUBSTANCE + "station " + district + ";series 0 0 5;");
            for (int asked = 0; asked <= 2; asked++) {
                Check.due("STATIONS with an INDEX in DISTRICT " + asked, air.district(asked, 0, 3), asked == district ? 1 : 0);
            }
        }
        Check.fault(HEAD + SUBSTANCE + "station ^3;", NUMBER);
        Check.fault(HEAD + SUBSTANCE + "station ^999;", NUMBER);
        Check.fault(PLAIN + STATION + STATION + "station ^3;", NUMBER);
    }

    private static void toldOnce() {
        Check.sentence("STATION, SUBSTANCE: such that are told, each two once");
        for (int substances = 1; substances <= 3; substances++) {
            for (int stations = 1; stations <= 4; stations++) {
                StringBuilder text = new StringBuilder(Texts.office(substances, stations));
                for (int pair = 0; pair < stations * substances; pair++) {
                    int station = pair % stations;
                    int substance = pair / stations;
                    text.append("series ").append(station).append(' ').append(substance).append(" 5;");
                    Check.told(text.toString());
                    Check.fault(text + "series " + station + " ^" + substance + " 5;", NUMBER);
                    Check.fault(text + "series 0 ^0 x;", NUMBER);
                    Check.fault(text + "series ^" + stations + " 0 5;", NUMBER);
                    Check.fault(text + "series 0 ^" + substances + " 5;", NUMBER);
                }
            }
        }
        Check.fault(PLAIN + "series ^999 0 5;", NUMBER);
        Check.fault(PLAIN + "series 0 ^999 5;", NUMBER);
    }

    private static void reads() {
        Check.sentence("READ 0 to 999, or the WORD 'x' (missing), 24 at most");
        AirIndex air = Check.told(SERIES + "0 999 x;");
        Check.due("READ 0", air.read(0, 0, 0), 0);
        Check.due("READ 999", air.read(0, 0, 1), 999);
        Check.due("READ x", air.read(0, 0, 2), AirIndex.NONE);
        Check.due("READS in all", air.now(3), 2);
        Check.fault(SERIES + "^1000;", TOKEN);
        Check.fault(SERIES + "^-1;", TOKEN);
        Check.fault(SERIES + "^y;", TOKEN);
        Check.fault(SERIES + "^;", TOKEN);
        String[] kinds = {" 0", " 999", " x"};
        for (String read : kinds) {
            for (int count = 1; count <= 24; count++) {
                Check.due("NOW", Check.told(SERIES + read.repeat(count) + ";").now(0), count);
            }
            for (String more : kinds) {
                Check.fault(SERIES + read.repeat(24) + " ^" + more.substring(1) + ";", ONE_MORE);
            }
        }
    }

    private static void firstAlongTheText() {
        Check.sentence("FAULTS, the first along the text (of one TOKEN the one that stands first in this list)");
        Check.fault("bands ^0 0 0;smooth 101;", NUMBER);
        Check.fault("bands 1 2 3;smooth ^101;?", NUMBER);
        Check.fault("bands 1 2 3^?;smooth 101;", TOKEN);
        Check.fault(SERIES + "5;series 0 ^0 1000;", NUMBER);
        Check.fault(SERIES + "5 ".repeat(24) + "^5 5 5 ?", ONE_MORE);
        Check.fault(SERIES + "5;series ^1 1 5;", NUMBER);
        // A sixth point whose LEVEL is not above the fifth's: 2 stands ahead of 3.
        String five = HEAD + "substance 1 1 0 0 1 1 2 2 3 3 4 4 ";
        Check.fault(five + "^4 5;", NUMBER);
        Check.fault(five + "^0 5;", NUMBER);
        Check.fault(five + "^5 5;", ONE_MORE);
        Check.fault(five + "^5 4;", ONE_MORE);
        // A sixth point, a 25th READ, one more 'substance' or 'station' that can't come: 1 stands ahead of 3.
        Check.fault(five + "^1000 5;", TOKEN);
        Check.fault(five + "^x 5;", TOKEN);
        Check.fault(SERIES + "5 ".repeat(24) + "^1000;", TOKEN);
        Check.fault(SERIES + "5 ".repeat(24) + "^y;", TOKEN);
        Check.fault(Texts.office(3, 1) + "^" + SUBSTANCE, TOKEN);
        Check.fault(Texts.office(1, 4) + "series 0 0 5;^" + STATION, TOKEN);
        // A NUMBER that can't come is that, whatever it is.
        Check.fault("bands 1 2 3 ^999;", TOKEN);
        Check.fault("bands 1 2 3;^999 5;", TOKEN);
    }

    /** Every beginning of a text whose NUMBERS have one digit each, so that no cut makes another NUMBER of one. */
    private static void atTheEnd() {
        Check.sentence("1 no TOKEN, or one that can't come (at it; the end: how many bytes there are;");
        String text = "bands 1 2 3 ;smooth 5 ;substance 1 1 0 0 1 1 2 2 ;substance 1 1 0 0 9 9 ;station 0 ;station 1 ;"
            + "series 0 0 x 5 ;series 1 1 7 ;";
        int needed = text.indexOf("station 1");
        for (int bytes = 0; bytes < text.length(); bytes++) {
            String cut = text.substring(0, bytes);
            int wordStart = startOfCutWord(text, bytes);
            if (wordStart < bytes) {
                Check.fault(cut.substring(0, wordStart) + "^" + cut.substring(wordStart), TOKEN);
            } else if (bytes >= needed && cut.endsWith(";")) {
                Check.told(cut);
                Check.told(cut + " \n");
            } else {
                Check.fault(cut + "^", TOKEN);
                Check.fault(cut + " \n^", TOKEN);
            }
        }
        Check.fault("^", TOKEN);
        Check.fault(" ^", TOKEN);
        Check.fault(" ".repeat(599) + "^", TOKEN);
        Check.fault(" ".repeat(600) + "^", TOKEN);
        Check.fault(" ".repeat(599) + "^;", TOKEN);
    }

    /** Where the WORD begins whose last letters are cut off, or the place itself if it stands in none. */
    private static int startOfCutWord(String text, int bytes) {
        if (bytes == 0 || !isLetter(text.charAt(bytes - 1)) || !isLetter(text.charAt(bytes))) {
            return bytes;
        }
        int start = bytes;
        while (start > 0 && isLetter(text.charAt(start - 1))) {
            start--;
        }
        return start;
    }

    /** The last TOKEN begins at byte 599: what it is shows whether it is read whole. */
    private static void aheadOf600() {
        Check.sentence("600, if there are more and no FAULT is ahead: TOKENS that begin ahead of it are read whole)");
        String smooth = Texts.filledTo(599, "bands 1 2 3;smooth");
        Check.fault(smooth + "5^0", TOKEN);
        Check.fault(smooth + "1^00;", TOKEN);
        Check.fault(smooth + "^101;", NUMBER);
        Check.fault(smooth + "^1000;", TOKEN);
        Check.fault(smooth + "^5x;", TOKEN);
        Check.fault(smooth + "^" + "5".repeat(41), TOKEN);
        String series = Texts.filledTo(599, SERIES);
        Check.fault(series + "^xx;", TOKEN);
        Check.fault(series + "x^;", TOKEN);
        Check.fault(series + "9^99;", TOKEN);
        Check.fault(series + "^9999;", TOKEN);
        Check.fault(Texts.filledTo(599, SERIES + "5 ".repeat(24)) + "^77;", ONE_MORE);
        Check.fault(Texts.filledTo(599, Texts.office(3, 0)) + "^substance", ONE_MORE);
        Check.fault(Texts.filledTo(599, Texts.office(1, 4)) + "^station", ONE_MORE);
        Check.fault(Texts.filledTo(599, HEAD + "substance 1 1 0 0 1 1 2 2 3 3 4 4") + "^55 5;", ONE_MORE);
        Check.fault(Texts.filledTo(599, SERIES + "5;series 0") + "^0 5;", NUMBER);
        Check.fault(Texts.filledTo(599, SERIES + "5;series 0") + "^00 5;", NUMBER);
        String plain = Texts.filledTo(599, PLAIN);
        Check.fault(plain + "s^eries 0 0 5;", TOKEN);
        Check.fault(plain + "^serie 0 0 5;", TOKEN);
        Check.fault(plain + "^?" + " ".repeat(40), TOKEN);
        Check.fault(plain + " ^?", TOKEN);
        Check.fault(plain + " ^" + "?".repeat(40), TOKEN);
        // What begins at byte 600 or behind it is not looked at, the FAULT is at 600.
        Check.fault(Texts.filledTo(600, "bands 1 2 3;smooth") + "^101;", TOKEN);
        Check.fault(Texts.filledTo(600, "bands 1 2 3;smooth") + "^ 101;", TOKEN);
        Check.fault(Texts.filledTo(600, Texts.office(3, 0)) + "^substance", TOKEN);
        Check.fault("bands 1 2 ^2" + " ".repeat(628), NUMBER);
        Check.fault("^?" + " ".repeat(639), TOKEN);
    }

    private static void numbersNotAsTold() {
        Check.sentence("2 a NUMBER that is not as told (at it; at the SUBSTANCE of a second 'series' for two)");
        Check.fault("bands 1 \n ^0 3;", NUMBER);
        Check.fault("bands 1 \n ^000 3;", NUMBER);
        String two = Texts.office(2, 2);
        Check.fault(two + "series 0 0 5;series 0 ^0 5;", NUMBER);
        Check.fault(two + "series 1 1 5;series 0 1 5;series 1 0 5;series 1 ^1 5;", NUMBER);
        Check.fault(two + "series 0 0 5;series 00 \n ^000", NUMBER);
        Check.told(two + "series 0 1 5;series 1 0 5;series 0 0 5;series 1 1 5;");
    }

    private static void oneMore() {
        Check.sentence("3 one more 'substance', 'station' than told (at its WORD), a sixth point (at its LEVEL),"
            + " a 25th READ (at it).");
        Check.told(Texts.office(3, 4));
        Check.fault(Texts.office(3, 0) + " \n ^substance", ONE_MORE);
        Check.fault(Texts.office(3, 0) + "^substance 0 0 ?", ONE_MORE);
        Check.fault(Texts.office(1, 4) + " \n ^station", ONE_MORE);
        Check.fault(Texts.office(1, 4) + "^station 9 ?", ONE_MORE);
        String five = HEAD + "substance 1 1 0 0 1 1 2 2 3 3 4 4";
        Check.told(five + ";" + STATION);
        Check.fault(five + " ^5", ONE_MORE);
        Check.fault(five + " ^999 500;" + STATION, ONE_MORE);
        Check.told(SERIES + "5 ".repeat(24) + ";");
        Check.fault(SERIES + "5 ".repeat(24) + "^0", ONE_MORE);
        Check.fault(SERIES + "5 ".repeat(24) + "^x", ONE_MORE);
    }
}
