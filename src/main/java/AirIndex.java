/**
 * An air index office: stations of districts read substances hour by hour; the office tells means, sub-indexes,
 * indexes, bands and forecasts, takes corrections and undoes its latest acts.
 *
 * No call makes an object: all rows are made by the constructor and used again.
 */
public final class AirIndex {
    public static final int NONE = -1;

    private static final int BY_NONE = -2;
    private static final int NOT_CORRECTED = -2;

    private static final int TAPE_BYTES = 640;
    private static final int TEXT_BYTES = 600;
    private static final int FEED_BYTES = 20;

    private static final int BANDS = 3;
    private static final int DISTRICTS = 3;
    private static final int MOST_SUBSTANCES = 3;
    private static final int MOST_STATIONS = 4;
    private static final int LEAST_POINTS = 2;
    private static final int MOST_POINTS = 5;
    private static final int MOST_TOLD_READS = 24;
    private static final int MOST_HOURS = 60;
    private static final int MOST_PASSED = 12;
    private static final int MOST_WINDOW = 12;
    private static final int MOST_LEVEL = 999;
    private static final int MOST_INDEX = 500;
    private static final int MOST_SHARE = 100;
    private static final int MOST_KEPT_ACTS = 10;

    /** Steps of 512, 256 .. 1 from -1 on reach every LEVEL from 0 to 999. */
    private static final int FIRST_STEP = 512;

    private static final int FAULT_TOKEN = 1;
    private static final int FAULT_NUMBER = 2;
    private static final int FAULT_ONE_MORE = 3;

    private static final int TOKEN_BAD = 0;
    private static final int TOKEN_WORD = 1;
    private static final int TOKEN_NUMBER = 2;
    private static final int TOKEN_SEMICOLON = 3;
    private static final int TOKEN_END = 4;

    private static final int ACT_CORRECT = 1;
    private static final int ACT_PASS = 2;
    private static final int ACT_SMOOTH = 3;
    private static final int ACT_WINDOW = 4;

    private static final String WORD_BANDS = "bands";
    private static final String WORD_SMOOTH = "smooth";
    private static final String WORD_SUBSTANCE = "substance";
    private static final String WORD_STATION = "station";
    private static final String WORD_SERIES = "series";
    private static final String WORD_MISSING = "x";

    private final Tape tape;
    private final TextReader reader;
    private final History history;
    private Office office;
    /** Where a text is read to, so that one with a fault leaves the office as it is. */
    private Office draft;

    public AirIndex() {
        tape = new Tape();
        reader = new TextReader(tape);
        history = new History();
        office = new Office();
        draft = new Office();
        office.tellFirst();
    }

    public int feed(int a, int b, int c, int d, int e) {
        if (!tape.hasRoom(FEED_BYTES)) {
            return NONE;
        }
        tape.append(a);
        tape.append(b);
        tape.append(c);
        tape.append(d);
        tape.append(e);
        return tape.length;
    }

    public boolean end(int n) {
        return tape.cutTo(n);
    }

    public int text() {
        draft.clear();
        reader.begin();
        boolean isText = reader.readsBands(draft) && reader.readsShare(draft) && reader.readsSubstances(draft)
            && reader.readsStations(draft) && reader.readsAllSeries(draft);
        tape.cutTo(0);
        if (!isText) {
            return -1 - reader.faultPlace;
        }
        Office told = draft;
        draft = office;
        office = told;
        history.forgetAll();
        return reader.lines;
    }

    public int fault() {
        return reader.faultKind;
    }

    public int now(int what) {
        switch (what) {
            case 0:
                return office.hours;
            case 1:
                return office.substanceCount;
            case 2:
                return office.stationCount;
            case 3:
                return office.countReads();
            case 4:
                return office.share;
            case 5:
                return history.count;
            case 6:
                return tape.length;
            default:
                return NONE;
        }
    }

    public int read(int station, int substance, int hour) {
        return office.readAt(station, substance, hour);
    }

    public int mean(int station, int substance, int hour) {
        return office.meanAt(station, substance, hour);
    }

    public int scale(int substance, int level) {
        Substance told = office.substanceAt(substance);
        if (told == null || level < 0 || level > MOST_LEVEL) {
            return NONE;
        }
        return told.subAtLevel(level);
    }

    public int back(int substance, int index) {
        Substance told = office.substanceAt(substance);
        if (told == null || index < 0 || index > MOST_INDEX) {
            return NONE;
        }
        // SUB never falls as the LEVEL rises, so the greatest LEVEL with a lesser SUB lies just below the one asked for.
        int lesser = -1;
        for (int step = FIRST_STEP; step > 0; step /= 2) {
            int tried = lesser + step;
            if (tried <= MOST_LEVEL && told.subAtLevel(tried) < index) {
                lesser = tried;
            }
        }
        return lesser == MOST_LEVEL ? BY_NONE : lesser + 1;
    }

    public int sub(int station, int substance, int hour) {
        return office.subAt(station, substance, hour);
    }

    public int index(int station, int hour, int what) {
        switch (what) {
            case 0:
                return office.indexAt(station, hour);
            case 1:
                return office.rulingAt(station, hour);
            case 2:
                return office.bandOf(office.indexAt(station, hour));
            default:
                return NONE;
        }
    }

    public int district(int district, int hour, int what) {
        if (district < 0 || district >= DISTRICTS || !office.hasHour(hour)) {
            return NONE;
        }
        int worstStation = office.worstStationAt(district, hour);
        switch (what) {
            case 0:
                return office.indexAt(worstStation, hour);
            case 1:
                return worstStation;
            case 2:
                return office.bandOf(office.indexAt(worstStation, hour));
            case 3:
                return office.countIndexed(district, hour);
            default:
                return NONE;
        }
    }

    public int lasts(int station, int hour, int band) {
        if (!office.hasStation(station) || !office.hasHour(hour) || band < 1 || band > BANDS) {
            return NONE;
        }
        int lasted = 0;
        for (int h = hour; h >= 0; h--) {
            if (office.bandOf(office.indexAt(station, h)) < band) {
                break;
            }
            lasted++;
        }
        return lasted;
    }

    public int worst(int station, int from, int to) {
        if (!office.hasStation(station) || !office.hasHour(from) || !office.hasHour(to)) {
            return NONE;
        }
        int greatest = NONE;
        int worstHour = NONE;
        for (int h = from; h <= to; h++) {
            int index = office.indexAt(station, h);
            if (index > greatest) {
                greatest = index;
                worstHour = h;
            }
        }
        return worstHour;
    }

    public int forecast(int station, int substance, int hour) {
        return office.forecastBehind(station, substance, hour);
    }

    public int keeps(int station, int substance, int k) {
        int latest = office.hours - 1;
        if (!office.hasPlace(station, substance, latest) || k < 0 || k >= BANDS) {
            return NONE;
        }
        int bound = office.bandStart(k);
        int kept = office.readAt(station, substance, latest);
        // INDEX never falls as this READ rises, and whether there is one does not hang on its number.
        int greatest = -1;
        for (int step = FIRST_STEP; step > 0; step /= 2) {
            int tried = greatest + step;
            if (tried > MOST_LEVEL) {
                continue;
            }
            office.putRead(station, substance, latest, tried);
            int index = office.indexAt(station, latest);
            if (index != NONE && index < bound) {
                greatest = tried;
            }
        }
        office.putRead(station, substance, latest, kept);
        return greatest < 0 ? BY_NONE : greatest;
    }

    public int touches(int station, int substance, int hour, int value) {
        if (!canCorrect(station, substance, hour, value)) {
            return NONE;
        }
        return touchedHours(station, substance, hour, value);
    }

    public int correct(int station, int substance, int hour, int value) {
        if (!canCorrect(station, substance, hour, value)) {
            return NOT_CORRECTED;
        }
        int touched = touchedHours(station, substance, hour, value);
        Act act = history.next(ACT_CORRECT);
        act.station = station;
        act.substance = substance;
        act.hour = hour;
        act.before = office.readAt(station, substance, hour);
        office.putRead(station, substance, hour, value);
        return Integer.bitCount(touched);
    }

    public int pass(int hours) {
        if (hours < 1 || hours > MOST_PASSED || office.hours + hours > MOST_HOURS) {
            return NONE;
        }
        Act act = history.next(ACT_PASS);
        act.before = office.hours;
        office.hours += hours;
        return office.hours;
    }

    public int smooth(int share) {
        if (share < 0 || share > MOST_SHARE) {
            return NONE;
        }
        Act act = history.next(ACT_SMOOTH);
        act.before = office.share;
        office.share = share;
        return act.before;
    }

    public boolean window(int substance, int window, int need) {
        Substance told = office.substanceAt(substance);
        if (told == null || window < 1 || window > MOST_WINDOW || need < 1 || need > window) {
            return false;
        }
        Act act = history.next(ACT_WINDOW);
        act.substance = substance;
        act.before = told.window;
        act.needBefore = told.need;
        told.window = window;
        told.need = need;
        return true;
    }

    public int undo() {
        Act act = history.takeLatest();
        if (act == null) {
            return NONE;
        }
        takeBack(act);
        return history.count;
    }

    private void takeBack(Act act) {
        switch (act.kind) {
            case ACT_CORRECT:
                office.putRead(act.station, act.substance, act.hour, act.before);
                break;
            case ACT_PASS:
                // What was corrected in these HOURS has been undone ahead of this: they are all missing again.
                office.hours = act.before;
                break;
            case ACT_SMOOTH:
                office.share = act.before;
                break;
            case ACT_WINDOW:
                Substance told = office.substanceAt(act.substance);
                if (told != null) {
                    told.window = act.before;
                    told.need = act.needBefore;
                }
                break;
            default:
                break;
        }
    }

    private boolean canCorrect(int station, int substance, int hour, int value) {
        return office.hasPlace(station, substance, hour) && value >= NONE && value <= MOST_LEVEL;
    }

    /** Bit i: INDEX of the STATION i HOURS later would be another; no WINDOW reaches further than the loop. */
    private int touchedHours(int station, int substance, int hour, int value) {
        int before = office.readAt(station, substance, hour);
        int touched = 0;
        for (int later = 0; later < MOST_WINDOW; later++) {
            int index = office.indexAt(station, hour + later);
            office.putRead(station, substance, hour, value);
            int corrected = office.indexAt(station, hour + later);
            office.putRead(station, substance, hour, before);
            if (corrected != index) {
                touched |= 1 << later;
            }
        }
        return touched;
    }

    /** The bytes that have been fed. */
    private static final class Tape {
        private final byte[] bytes = new byte[TAPE_BYTES];
        private int length;

        boolean hasRoom(int more) {
            return length + more <= TAPE_BYTES;
        }

        void append(int number) {
            for (int shift = 24; shift >= 0; shift -= 8) {
                if (length >= 0 && length < TAPE_BYTES) {
                    bytes[length] = (byte) (number >> shift);
                    length++;
                }
            }
        }

        boolean cutTo(int n) {
            if (n < 0 || n > length) {
                return false;
            }
            length = n;
            return true;
        }

        /** NONE, which is no byte, where there is none. */
        int byteAt(int place) {
            if (place < 0 || place >= length || place >= TAPE_BYTES) {
                return NONE;
            }
            return bytes[place] & 255;
        }
    }

    /** The TOKEN of a tape that is looked at. */
    private static final class Token {
        private final Tape tape;
        private int kind;
        private int start;
        private int behind;
        private int number;

        Token(Tape tape) {
            this.tape = tape;
        }

        void moveToFirst() {
            behind = 0;
            moveToNext();
        }

        void moveToNext() {
            skipBlanks();
            int textEnd = Math.min(tape.length, TEXT_BYTES);
            if (start >= textEnd) {
                start = textEnd;
                behind = textEnd;
                kind = tape.length > TEXT_BYTES ? TOKEN_BAD : TOKEN_END;
            } else if (tape.byteAt(start) == ';') {
                behind = start + 1;
                kind = TOKEN_SEMICOLON;
            } else {
                scanRun();
            }
        }

        boolean isWord(String word) {
            if (kind != TOKEN_WORD || behind - start != word.length()) {
                return false;
            }
            for (int i = 0; i < word.length(); i++) {
                if (tape.byteAt(start + i) != word.charAt(i)) {
                    return false;
                }
            }
            return true;
        }

        private void skipBlanks() {
            start = behind;
            while (start >= 0 && start < tape.length && start < TAPE_BYTES) {
                int sign = tape.bytes[start];
                if (sign != 32 && sign != 10) {
                    return;
                }
                start++;
            }
        }

        /** A run of small letters and digits goes on past the 600th byte: such a TOKEN is read whole. */
        private void scanRun() {
            int letters = 0;
            int digits = 0;
            number = 0;
            behind = start;
            while (behind >= 0 && behind < tape.length && behind < TAPE_BYTES) {
                int sign = tape.bytes[behind];
                if (sign >= '0' && sign <= '9') {
                    digits++;
                    number = number * 10 + (sign - '0');
                } else if (sign >= 'a' && sign <= 'z') {
                    letters++;
                } else {
                    break;
                }
                behind++;
            }
            if (letters > 0 && digits == 0) {
                kind = TOKEN_WORD;
            } else if (letters == 0 && digits >= 1 && digits <= 3) {
                kind = TOKEN_NUMBER;
            } else {
                kind = TOKEN_BAD;
            }
        }
    }

    /** Reads a TEXT along its TOKENS up to its end or its first FAULT. */
    private static final class TextReader {
        private final Token token;
        private int lines;
        private int faultKind;
        private int faultPlace;
        /** The NUMBER that takesNumber() took. */
        private int taken;
        /** A bit for each STATION and SUBSTANCE whose 'series' has come. */
        private int toldSeries;

        TextReader(Tape tape) {
            token = new Token(tape);
        }

        void begin() {
            lines = 0;
            faultKind = 0;
            faultPlace = 0;
            toldSeries = 0;
            token.moveToFirst();
        }

        boolean readsBands(Office draft) {
            if (!takesWord(WORD_BANDS)) {
                return false;
            }
            int least = 1;
            for (int k = 0; k < BANDS; k++) {
                if (!takesNumber(least, MOST_INDEX)) {
                    return false;
                }
                draft.putBand(k, taken);
                least = taken + 1;
            }
            return takesSemicolon();
        }

        boolean readsShare(Office draft) {
            if (!takesWord(WORD_SMOOTH) || !takesNumber(0, MOST_SHARE)) {
                return false;
            }
            draft.share = taken;
            return takesSemicolon();
        }

        boolean readsSubstances(Office draft) {
            for (int told = 0; told < MOST_SUBSTANCES; told++) {
                if (told > 0 && !token.isWord(WORD_SUBSTANCE)) {
                    return true;
                }
                if (!readsSubstance(draft)) {
                    return false;
                }
            }
            return !token.isWord(WORD_SUBSTANCE) || refuses(FAULT_ONE_MORE);
        }

        private boolean readsSubstance(Office draft) {
            if (!takesWord(WORD_SUBSTANCE) || !takesNumber(1, MOST_WINDOW)) {
                return false;
            }
            int window = taken;
            if (!takesNumber(1, window)) {
                return false;
            }
            Substance told = draft.addSubstance(window, taken);
            return told != null && readsPoints(told) && takesSemicolon();
        }

        private boolean readsPoints(Substance told) {
            int leastLevel = 0;
            int leastIndex = 0;
            for (int point = 0; point < MOST_POINTS; point++) {
                if (point >= LEAST_POINTS && token.kind == TOKEN_SEMICOLON) {
                    return true;
                }
                if (!takesNumber(leastLevel, MOST_LEVEL)) {
                    return false;
                }
                int level = taken;
                if (!takesNumber(leastIndex, MOST_INDEX)) {
                    return false;
                }
                told.addPoint(level, taken);
                leastLevel = level + 1;
                leastIndex = taken;
            }
            // A LEVEL that is not as told is that FAULT even where it begins a sixth point.
            return token.kind == TOKEN_SEMICOLON
                || isNumberWithin(leastLevel, MOST_LEVEL) && refuses(FAULT_ONE_MORE);
        }

        boolean readsStations(Office draft) {
            for (int told = 0; told < MOST_STATIONS; told++) {
                if (told > 0 && !token.isWord(WORD_STATION)) {
                    return true;
                }
                if (!takesWord(WORD_STATION) || !takesNumber(0, DISTRICTS - 1)) {
                    return false;
                }
                draft.addStation(taken);
                if (!takesSemicolon()) {
                    return false;
                }
            }
            return !token.isWord(WORD_STATION) || refuses(FAULT_ONE_MORE);
        }

        boolean readsAllSeries(Office draft) {
            for (int told = 0; told < MOST_STATIONS * MOST_SUBSTANCES; told++) {
                if (token.kind == TOKEN_END) {
                    return true;
                }
                if (!readsSeries(draft)) {
                    return false;
                }
            }
            // All that can be told are: one more 'series' is read for the FAULT that it has.
            return token.kind == TOKEN_END || readsSeries(draft);
        }

        private boolean readsSeries(Office draft) {
            if (!takesWord(WORD_SERIES) || !takesNumber(0, draft.stationCount - 1)) {
                return false;
            }
            int station = taken;
            if (!isNumberWithin(0, draft.substanceCount - 1)) {
                return false;
            }
            int substance = token.number;
            int series = 1 << (station * MOST_SUBSTANCES + substance);
            if ((toldSeries & series) != 0) {
                return refuses(FAULT_NUMBER);
            }
            toldSeries |= series;
            token.moveToNext();
            return readsReads(draft, station, substance) && takesSemicolon();
        }

        private boolean readsReads(Office draft, int station, int substance) {
            for (int hour = 0; hour < MOST_TOLD_READS; hour++) {
                if (hour > 0 && token.kind == TOKEN_SEMICOLON) {
                    return true;
                }
                if (!isRead()) {
                    return false;
                }
                draft.hours = Math.max(draft.hours, hour + 1);
                draft.putRead(station, substance, hour, token.kind == TOKEN_NUMBER ? token.number : NONE);
                token.moveToNext();
            }
            return token.kind == TOKEN_SEMICOLON || isRead() && refuses(FAULT_ONE_MORE);
        }

        private boolean isRead() {
            return token.isWord(WORD_MISSING) || isNumberWithin(0, MOST_LEVEL);
        }

        private boolean takesWord(String word) {
            if (!token.isWord(word)) {
                return refuses(FAULT_TOKEN);
            }
            token.moveToNext();
            return true;
        }

        private boolean takesNumber(int least, int most) {
            if (!isNumberWithin(least, most)) {
                return false;
            }
            taken = token.number;
            token.moveToNext();
            return true;
        }

        private boolean isNumberWithin(int least, int most) {
            if (token.kind != TOKEN_NUMBER) {
                return refuses(FAULT_TOKEN);
            }
            return token.number >= least && token.number <= most || refuses(FAULT_NUMBER);
        }

        private boolean takesSemicolon() {
            if (token.kind != TOKEN_SEMICOLON) {
                return refuses(FAULT_TOKEN);
            }
            lines++;
            token.moveToNext();
            return true;
        }

        /** Always false, so that a reading method can end with it. */
        private boolean refuses(int kind) {
            faultKind = kind;
            faultPlace = token.start;
            return false;
        }
    }

    /** WINDOW, NEED and the broken line of a SUBSTANCE. */
    private static final class Substance {
        private final int[] levels = new int[MOST_POINTS];
        private final int[] indexes = new int[MOST_POINTS];
        private int points;
        private int window;
        private int need;

        void addPoint(int level, int index) {
            if (points >= 0 && points < MOST_POINTS) {
                levels[points] = level;
                indexes[points] = index;
                points++;
            }
        }

        int subAtLevel(int level) {
            int answer = indexes[0];
            for (int i = 1; i < points && i < MOST_POINTS; i++) {
                int past = level - levels[i - 1];
                int width = levels[i] - levels[i - 1];
                if (past >= width) {
                    answer = indexes[i];
                } else if (past > 0 && width > 0) {
                    answer = indexes[i - 1] + past * (indexes[i] - indexes[i - 1]) / width;
                }
            }
            return answer;
        }
    }

    /** All that a TEXT tells, and what follows from it; a question about what is not there answers NONE. */
    private static final class Office {
        private final int[] bands = new int[BANDS];
        private final Substance[] substances = new Substance[MOST_SUBSTANCES];
        private final int[] districts = new int[MOST_STATIONS];
        /** READS of a STATION and a SUBSTANCE stand in one row; those behind the latest HOUR are NONE. */
        private final int[][] reads = new int[MOST_STATIONS * MOST_SUBSTANCES][MOST_HOURS];
        private int share;
        private int substanceCount;
        private int stationCount;
        private int hours;

        Office() {
            for (int s = 0; s < MOST_SUBSTANCES; s++) {
                substances[s] = new Substance();
            }
        }

        void clear() {
            share = 0;
            substanceCount = 0;
            stationCount = 0;
            hours = 0;
            for (int row = 0; row < MOST_STATIONS * MOST_SUBSTANCES; row++) {
                for (int h = 0; h < MOST_HOURS; h++) {
                    reads[row][h] = NONE;
                }
            }
        }

        void tellFirst() {
            clear();
            for (int k = 0; k < BANDS; k++) {
                bands[k] = 50 * (k + 1);
            }
            share = 50;
            Substance first = addSubstance(1, 1);
            if (first != null) {
                first.addPoint(0, 0);
                first.addPoint(100, 100);
            }
            addStation(0);
        }

        void putBand(int k, int start) {
            if (k >= 0 && k < BANDS) {
                bands[k] = start;
            }
        }

        /** Null, if there are as many as there may be. */
        Substance addSubstance(int window, int need) {
            if (substanceCount < 0 || substanceCount >= MOST_SUBSTANCES) {
                return null;
            }
            Substance added = substances[substanceCount];
            added.window = window;
            added.need = need;
            added.points = 0;
            substanceCount++;
            return added;
        }

        void addStation(int district) {
            if (stationCount >= 0 && stationCount < MOST_STATIONS) {
                districts[stationCount] = district;
                stationCount++;
            }
        }

        boolean hasStation(int station) {
            return station >= 0 && station < stationCount && station < MOST_STATIONS;
        }

        boolean hasHour(int hour) {
            return hour >= 0 && hour < hours && hour < MOST_HOURS;
        }

        boolean hasPlace(int station, int substance, int hour) {
            return station >= 0 && station < stationCount && station < MOST_STATIONS
                && substance >= 0 && substance < substanceCount && substance < MOST_SUBSTANCES
                && hour >= 0 && hour < hours && hour < MOST_HOURS;
        }

        /** Null, if there is no such one. */
        Substance substanceAt(int substance) {
            if (substance < 0 || substance >= substanceCount || substance >= MOST_SUBSTANCES) {
                return null;
            }
            return substances[substance];
        }

        void putRead(int station, int substance, int hour, int value) {
            if (hasPlace(station, substance, hour)) {
                reads[station * MOST_SUBSTANCES + substance][hour] = value;
            }
        }

        int readAt(int station, int substance, int hour) {
            return hasPlace(station, substance, hour) ? reads[station * MOST_SUBSTANCES + substance][hour] : NONE;
        }

        int countReads() {
            int count = 0;
            for (int row = 0; row < MOST_STATIONS * MOST_SUBSTANCES; row++) {
                for (int h = 0; h < hours && h < MOST_HOURS; h++) {
                    if (reads[row][h] != NONE) {
                        count++;
                    }
                }
            }
            return count;
        }

        int meanAt(int station, int substance, int hour) {
            Substance told = substanceAt(substance);
            if (told == null || !hasPlace(station, substance, hour)) {
                return NONE;
            }
            int first = Math.max(0, hour - told.window + 1);
            int found = 0;
            int sum = 0;
            int greatest = 0;
            for (int h = first; h <= hour; h++) {
                int read = readAt(station, substance, h);
                if (read != NONE) {
                    found++;
                    sum += read;
                    greatest = Math.max(greatest, read);
                }
            }
            int width = hour - first + 1;
            if (found < told.need || width < 1) {
                return NONE;
            }
            return (sum + (width - found) * greatest) / width;
        }

        int subAt(int station, int substance, int hour) {
            Substance told = substanceAt(substance);
            int mean = meanAt(station, substance, hour);
            return told == null || mean == NONE ? NONE : told.subAtLevel(mean);
        }

        int indexAt(int station, int hour) {
            int greatest = NONE;
            for (int s = 0; s < substanceCount; s++) {
                greatest = Math.max(greatest, subAt(station, s, hour));
            }
            return greatest;
        }

        int rulingAt(int station, int hour) {
            int index = indexAt(station, hour);
            for (int s = 0; s < substanceCount; s++) {
                if (index != NONE && subAt(station, s, hour) == index) {
                    return s;
                }
            }
            return NONE;
        }

        int worstStationAt(int district, int hour) {
            int greatest = NONE;
            int worstStation = NONE;
            for (int s = 0; s < stationCount && s < MOST_STATIONS; s++) {
                int index = districts[s] == district ? indexAt(s, hour) : NONE;
                if (index > greatest) {
                    greatest = index;
                    worstStation = s;
                }
            }
            return worstStation;
        }

        int countIndexed(int district, int hour) {
            int count = 0;
            for (int s = 0; s < stationCount && s < MOST_STATIONS; s++) {
                if (districts[s] == district && indexAt(s, hour) != NONE) {
                    count++;
                }
            }
            return count;
        }

        int bandStart(int k) {
            return k >= 0 && k < BANDS ? bands[k] : NONE;
        }

        int bandOf(int index) {
            if (index == NONE) {
                return NONE;
            }
            int band = 0;
            for (int k = 0; k < BANDS; k++) {
                if (bands[k] <= index) {
                    band++;
                }
            }
            return band;
        }

        int forecastBehind(int station, int substance, int hour) {
            if (!hasPlace(station, substance, hour)) {
                return NONE;
            }
            float part = share / 100f;
            float smoothed = 0f;
            boolean isBegun = false;
            for (int h = 0; h <= hour; h++) {
                int read = readAt(station, substance, h);
                if (read == NONE) {
                    continue;
                }
                if (isBegun) {
                    smoothed = smoothed + part * ((float) read - smoothed);
                } else {
                    smoothed = (float) read;
                    isBegun = true;
                }
            }
            return isBegun ? (int) smoothed : NONE;
        }
    }

    /** What undoes one act: which it was, where, and what stood there before. */
    private static final class Act {
        private int kind;
        private int station;
        private int substance;
        private int hour;
        private int before;
        private int needBefore;
    }

    /** The latest acts, the oldest first. */
    private static final class History {
        private final Act[] acts = new Act[MOST_KEPT_ACTS];
        private int count;

        History() {
            for (int i = 0; i < MOST_KEPT_ACTS; i++) {
                acts[i] = new Act();
            }
        }

        void forgetAll() {
            count = 0;
        }

        /** The act to be filled, kept as the latest; a full history forgets its oldest and uses that one again. */
        Act next(int kind) {
            if (count < 0 || count >= MOST_KEPT_ACTS) {
                forgetOldest();
            }
            Act act = acts[count];
            act.kind = kind;
            count++;
            return act;
        }

        /** Null, if there is none. */
        Act takeLatest() {
            if (count < 1 || count > MOST_KEPT_ACTS) {
                return null;
            }
            count--;
            return acts[count];
        }

        private void forgetOldest() {
            Act oldest = acts[0];
            for (int i = 1; i < MOST_KEPT_ACTS; i++) {
                acts[i - 1] = acts[i];
            }
            acts[MOST_KEPT_ACTS - 1] = oldest;
            count = MOST_KEPT_ACTS - 1;
        }
    }
}
