/** Compares answers with what is due, and feeds texts; every test of the project uses it. */
final class Check {
    private static int wrong = 0;
    private static int asked = 0;

    private Check() {
    }

    static void due(String call, long got, long want) {
        asked++;
        if (got != want) {
            wrong++;
            System.out.println(call + " answered " + got + ", due is " + want);
        }
    }

    static void due(String call, boolean got, boolean want) {
        due(call, got ? 1L : 0L, want ? 1L : 0L);
    }

    /** Puts the bytes (chars 0 to 255) of a text on the tape, which must be empty. */
    static void feed(AirIndex air, String text) {
        int fed = 0;
        while (fed < text.length()) {
            int[] words = new int[5];
            for (int i = 0; i < 20; i++) {
                int sign = fed + i < text.length() ? text.charAt(fed + i) & 255 : 0;
                words[i / 4] = words[i / 4] << 8 | sign;
            }
            fed += 20;
            due("feed() of a text", air.feed(words[0], words[1], words[2], words[3], words[4]), fed);
        }
        due("end(" + text.length() + ")", air.end(text.length()), true);
    }

    static int tell(AirIndex air, String text) {
        feed(air, text);
        return air.text();
    }

    /** A new object with that TEXT. */
    static AirIndex told(String text) {
        AirIndex air = new AirIndex();
        int lines = 0;
        for (int i = 0; i < text.length(); i++) {
            lines += text.charAt(i) == ';' ? 1 : 0;
        }
        due("text() of " + text, tell(air, text), lines);
        due("fault() of " + text, air.fault(), 0);
        return air;
    }

    /** Prints how the test ended; exit code 1 if an answer was wrong. */
    static void finish() {
        System.out.println(asked + " answers, " + wrong + " of them wrong");
        if (wrong != 0 || asked == 0) {
            System.exit(1);
        }
    }
}
