/** Compares answers with what is due, and feeds texts; every test of the project uses it. */
final class Check {
    private static int wrong = 0;
    private static int asked = 0;
    private static int sentences = 0;
    private static String sentence = "";

    private Check() {
    }

    /** What is asked from here on tests this sentence of the document, told in its own words. */
    static void sentence(String words) {
        sentences++;
        sentence = "\"" + words + "\": ";
    }

    static void due(String call, long got, long want) {
        asked++;
        if (got != want) {
            wrong++;
            System.out.println(sentence + call + " answered " + got + ", due is " + want);
        }
    }

    static void due(String call, boolean got, boolean want) {
        due(call, got ? 1L : 0L, want ? 1L : 0L);
    }

    /** Numbers that are not 0 to count less 1: those next to them, and those that a wrap-around would bring back. */
    static int[] notBelow(int count) {
        return new int[] {-1, count, -2, count + 1, -256, 256 * 4, -65536, 65536, 1 << 30, 3 << 30, Integer.MIN_VALUE,
            Integer.MIN_VALUE + 1, Integer.MAX_VALUE - 11, Integer.MAX_VALUE};
    }

    /** A call that asks for a STATION, a SUBSTANCE and an HOUR. */
    interface Place {
        int at(int station, int substance, int hour);
    }

    /** Of so many STATIONS, SUBSTANCES and HOURS: each number that is not one of them has that answer. */
    static void noSuchPlaces(String call, int[] counts, int due, Place place) {
        for (int station : notBelow(counts[0])) {
            due(call + " of STATION " + station, place.at(station, 0, 0), due);
        }
        for (int substance : notBelow(counts[1])) {
            due(call + " of SUBSTANCE " + substance, place.at(0, substance, 0), due);
        }
        for (int hour : notBelow(counts[2])) {
            due(call + " in HOUR " + hour, place.at(0, 0, hour), due);
        }
    }

    /** Puts the bytes (chars 0 to 255) of a text on the tape, which must be empty. */
    static void feed(AirIndex air, String text) {
        int fed = 0;
        while (fed < text.length()) {
            int[] words = new int[5];
            for (int i = 0; i < 20; i++) {
                int sign = fed + i < text.length() ? text.charAt(fed + i) & 255 : 0;
                words[i / 4] = words[i / 4] << 8 | sign;
            }
            fed += 20;
            due("feed() of a text", air.feed(words[0], words[1], words[2], words[3], words[4]), fed);
        }
        due("end(" + text.length() + ")", air.end(text.length()), true);
    }

    static int tell(AirIndex air, String text) {
        feed(air, text);
        return air.text();
    }

    /** A new object with that TEXT. */
    static AirIndex told(String text) {
        AirIndex air = new AirIndex();
        int lines = 0;
        for (int i = 0; i < text.length(); i++) {
            lines += text.charAt(i) == ';' ? 1 : 0;
        }
        due("text() of " + text, tell(air, text), lines);
        due("fault() of " + text, air.fault(), 0);
        return air;
    }

    /** A text whose FAULT stands where the sign ^ does, which is taken out. */
    static void fault(String marked, int kind) {
        int place = marked.indexOf('^');
        String text = marked.substring(0, place) + marked.substring(place + 1);
        AirIndex air = new AirIndex();
        due("text() of " + marked, tell(air, text), -1 - place);
        due("fault() of " + marked, air.fault(), kind);
        due("tape behind " + marked, air.now(6), 0);
    }

    /** Prints how the test ended; exit code 1 if an answer was wrong. */
    static void finish() {
        System.out.println(asked + " answers, " + wrong + " of them wrong"
            + (sentences == 0 ? "" : "; " + sentences + " sentences of the document"));
        if (wrong != 0 || asked == 0) {
            System.exit(1);
        }
    }
}
