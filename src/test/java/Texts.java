/** Pieces that texts are made of, and the kinds of their FAULTS. */
final class Texts {
    static final String HEAD = "bands 1 2 3;smooth 5;";
    static final String SUBSTANCE = "substance 1 1 0 0 9 9;";
    static final String STATION = "station 0;";
    static final String PLAIN = HEAD + SUBSTANCE + STATION;
    static final int TOKEN = 1;
    static final int NUMBER = 2;
    static final int ONE_MORE = 3;

    private Texts() {
    }

    /** So many SUBSTANCES and STATIONS, all alike, and no 'series'. */
    static String office(int substances, int stations) {
        return HEAD + SUBSTANCE.repeat(substances) + STATION.repeat(stations);
    }

    /** One SUBSTANCE with that WINDOW and NEED, whose SUB is its LEVEL up to 500, and one STATION with that 'series'. */
    static String oneSeries(int window, int need, String reads) {
        return "bands 1 2 3;smooth 50;substance " + window + " " + need + " 0 0 500 500;station 0;series 0 0 " + reads + ";";
    }

    /** One SUBSTANCE whose SUB is 0 below that LEVEL (1 to 999) and 500 from it on, one STATION, one missing READ. */
    static String step(int level) {
        return HEAD + "substance 1 1 " + (level - 1) + " 0 " + level + " 500;" + STATION + "series 0 0 x;";
    }

    static String filledTo(int bytes, String text) {
        return text + " ".repeat(bytes - text.length());
    }
}
