import java.util.ArrayDeque;
import java.util.ArrayList;
import java.util.Arrays;
import java.util.List;
import java.util.regex.Matcher;
import java.util.regex.Pattern;

/** The document once more, written another way: whole copies for undo, plain trials for keeps and back. */
final class Model {
    private static final Pattern TOKENS = Pattern.compile("[a-z0-9]+|[^ \\n]", Pattern.DOTALL);

    /** All that undo() brings back. */
    private static final class State {
        int[] bands = {50, 100, 150};
        int share = 50;
        List<int[]> windows = new ArrayList<>();
        List<int[]> lines = new ArrayList<>();
        List<Integer> districts = new ArrayList<>();
        int now;
        int[][][] reads = new int[4][3][60];

        State() {
            for (int[][] station : reads) {
                for (int[] row : station) {
                    Arrays.fill(row, -1);
                }
            }
        }

        State copy() {
            State copy = new State();
            copy.bands = bands.clone();
            copy.share = share;
            for (int[] window : windows) {
                copy.windows.add(window.clone());
            }
            copy.lines = lines;
            copy.districts = districts;
            copy.now = now;
            for (int s = 0; s < 4; s++) {
                for (int p = 0; p < 3; p++) {
                    copy.reads[s][p] = reads[s][p].clone();
                }
            }
            return copy;
        }
    }

    private State state = new State();
    private final ArrayDeque<State> past = new ArrayDeque<>();
    private final StringBuilder tape = new StringBuilder();
    private int fault;
    private int place;

    Model() {
        state.windows.add(new int[] {1, 1});
        state.lines.add(new int[] {0, 0, 100, 100});
        state.districts.add(0);
    }

    int feed(int a, int b, int c, int d, int e) {
        if (tape.length() > 620) {
            return -1;
        }
        for (int number : new int[] {a, b, c, d, e}) {
            tape.append((char) (number >>> 24)).append((char) (number >>> 16 & 255));
            tape.append((char) (number >>> 8 & 255)).append((char) (number & 255));
        }
        return tape.length();
    }

    boolean end(int n) {
        if (n < 0 || n > tape.length()) {
            return false;
        }
        tape.setLength(n);
        return true;
    }

    int text() {
        State told = new State();
        fault = 0;
        int lines = parse(tape.toString(), told);
        tape.setLength(0);
        if (fault != 0) {
            return -1 - place;
        }
        state = told;
        past.clear();
        return lines;
    }

    int fault() {
        return fault;
    }

    private int faultAt(int kind, int where) {
        fault = kind;
        place = where;
        return 0;
    }

    /** What is expected next is told by a letter; each TOKEN is looked at once. */
    private int parse(String text, State told) {
        List<String> tokens = new ArrayList<>();
        List<Integer> places = new ArrayList<>();
        Matcher matcher = TOKENS.matcher(text);
        while (matcher.find() && matcher.start() < 600) {
            tokens.add(matcher.group());
            places.add(matcher.start());
        }
        tokens.add(text.length() > 600 ? "?" : "");
        places.add(Math.min(600, text.length()));
        String expected = "bands";
        int lines = 0;
        int station = 0;
        int substance = 0;
        List<Integer> row = new ArrayList<>();
        List<Integer> seen = new ArrayList<>();
        for (int i = 0; i < tokens.size(); i++) {
            String token = tokens.get(i);
            int at = places.get(i);
            boolean isNumber = token.matches("[0-9]{1,3}");
            int number = isNumber ? Integer.parseInt(token) : -1;
            int count = row.size();
            switch (expected) {
                case "bands":
                case "smooth":
                    if (!token.equals(expected)) {
                        return faultAt(1, at);
                    }
                    row.clear();
                    expected += " numbers";
                    break;
                case "bands numbers":
                    if (count == 3 ? !token.equals(";") : !isNumber) {
                        return faultAt(1, at);
                    }
                    if (count == 3) {
                        lines++;
                        told.bands = new int[] {row.get(0), row.get(1), row.get(2)};
                        expected = "smooth";
                    } else if (number > 500 || number < 1 || count > 0 && number <= row.get(count - 1)) {
                        return faultAt(2, at);
                    } else {
                        row.add(number);
                    }
                    break;
                case "smooth numbers":
                    if (count == 1 ? !token.equals(";") : !isNumber) {
                        return faultAt(1, at);
                    }
                    if (count == 1) {
                        lines++;
                        told.share = row.get(0);
                        expected = "lines";
                    } else if (number > 100) {
                        return faultAt(2, at);
                    } else {
                        row.add(number);
                    }
                    break;
                case "lines":
                    row.clear();
                    int stations = told.districts.size();
                    int substances = told.windows.size();
                    if (token.equals("substance") && stations == 0) {
                        if (substances == 3) {
                            return faultAt(3, at);
                        }
                        expected = "substance";
                    } else if (token.equals("station") && substances > 0 && seen.isEmpty()) {
                        if (stations == 4) {
                            return faultAt(3, at);
                        }
                        expected = "station";
                    } else if (token.equals("series") && stations > 0) {
                        expected = "series";
                    } else if (token.isEmpty() && stations > 0) {
                        return lines;
                    } else {
                        return faultAt(1, at);
                    }
                    break;
                case "substance":
                    boolean mayEnd = count >= 6 && count % 2 == 0;
                    if (token.equals(";") && mayEnd) {
                        lines++;
                        told.windows.add(new int[] {row.get(0), row.get(1)});
                        told.lines.add(row.subList(2, count).stream().mapToInt(n -> n).toArray());
                        expected = "lines";
                        break;
                    }
                    if (!isNumber) {
                        return faultAt(1, at);
                    }
                    boolean asTold;
                    if (count == 0) {
                        asTold = number >= 1 && number <= 12;
                    } else if (count == 1) {
                        asTold = number >= 1 && number <= row.get(0);
                    } else if (count % 2 == 0) {
                        asTold = count == 2 || number > row.get(count - 2);
                    } else {
                        asTold = number <= 500 && (count == 3 || number >= row.get(count - 2));
                    }
                    if (!asTold) {
                        return faultAt(2, at);
                    }
                    if (count == 12) {
                        return faultAt(3, at);
                    }
                    row.add(number);
                    break;
                case "station":
                    if (count == 1 ? !token.equals(";") : !isNumber) {
                        return faultAt(1, at);
                    }
                    if (count == 1) {
                        lines++;
                        told.districts.add(row.get(0));
                        expected = "lines";
                    } else if (number > 2) {
                        return faultAt(2, at);
                    } else {
                        row.add(number);
                    }
                    break;
                default:
                    boolean isRead = isNumber || count >= 2 && token.equals("x");
                    if (token.equals(";") && count > 2) {
                        lines++;
                        expected = "lines";
                        break;
                    }
                    if (!isRead) {
                        return faultAt(1, at);
                    }
                    if (count == 0) {
                        if (number >= told.districts.size()) {
                            return faultAt(2, at);
                        }
                        station = number;
                    } else if (count == 1) {
                        if (number >= told.windows.size() || seen.contains(station * 9 + number)) {
                            return faultAt(2, at);
                        }
                        substance = number;
                        seen.add(station * 9 + number);
                    } else if (count == 26) {
                        return faultAt(3, at);
                    } else {
                        told.reads[station][substance][count - 2] = number;
                        told.now = Math.max(told.now, count - 1);
                    }
                    row.add(number);
                    break;
            }
        }
        return faultAt(1, places.get(places.size() - 1));
    }

    int now(int what) {
        int reads = 0;
        for (int[][] station : state.reads) {
            for (int[] row : station) {
                for (int read : row) {
                    reads += read >= 0 ? 1 : 0;
                }
            }
        }
        int[] answers = {state.now, state.windows.size(), state.districts.size(), reads, state.share, past.size(),
            tape.length()};
        return what >= 0 && what < answers.length ? answers[what] : -1;
    }

    private boolean hasStation(int station) {
        return station >= 0 && station < state.districts.size();
    }

    private boolean hasSubstance(int substance) {
        return substance >= 0 && substance < state.windows.size();
    }

    private boolean hasHour(int hour) {
        return hour >= 0 && hour < state.now;
    }

    private boolean has(int station, int substance, int hour) {
        return hasStation(station) && hasSubstance(substance) && hasHour(hour);
    }

    int read(int station, int substance, int hour) {
        return has(station, substance, hour) ? state.reads[station][substance][hour] : -1;
    }

    int mean(int station, int substance, int hour) {
        if (!has(station, substance, hour)) {
            return -1;
        }
        List<Integer> found = new ArrayList<>();
        int missing = 0;
        for (int h = hour; h > hour - state.windows.get(substance)[0] && h >= 0; h--) {
            int read = state.reads[station][substance][h];
            if (read < 0) {
                missing++;
            } else {
                found.add(read);
            }
        }
        if (found.size() < state.windows.get(substance)[1]) {
            return -1;
        }
        int greatest = found.stream().mapToInt(n -> n).max().getAsInt();
        int sum = found.stream().mapToInt(n -> n).sum();
        return (sum + missing * greatest) / (found.size() + missing);
    }

    int scale(int substance, int level) {
        if (!hasSubstance(substance) || level < 0 || level > 999) {
            return -1;
        }
        int[] line = state.lines.get(substance);
        int last = line.length - 2;
        if (level <= line[0]) {
            return line[1];
        }
        if (level >= line[last]) {
            return line[last + 1];
        }
        int i = 0;
        while (line[i + 2] < level) {
            i += 2;
        }
        return line[i + 1] + (level - line[i]) * (line[i + 3] - line[i + 1]) / (line[i + 2] - line[i]);
    }

    int back(int substance, int index) {
        if (!hasSubstance(substance) || index < 0 || index > 500) {
            return -1;
        }
        for (int level = 0; level <= 999; level++) {
            if (scale(substance, level) >= index) {
                return level;
            }
        }
        return -2;
    }

    int sub(int station, int substance, int hour) {
        int mean = mean(station, substance, hour);
        return mean < 0 ? -1 : scale(substance, mean);
    }

    private int band(int index) {
        return index < 0 ? -1 : (int) Arrays.stream(state.bands).filter(b -> b <= index).count();
    }

    int index(int station, int hour, int what) {
        int ruling = -1;
        for (int s = 2; s >= 0; s--) {
            int sub = sub(station, s, hour);
            if (sub >= 0 && (ruling < 0 || sub >= sub(station, ruling, hour))) {
                ruling = s;
            }
        }
        int index = ruling < 0 ? -1 : sub(station, ruling, hour);
        return what == 0 ? index : what == 1 ? ruling : what == 2 ? band(index) : -1;
    }

    int district(int district, int hour, int what) {
        if (district < 0 || district > 2 || !hasHour(hour) || what < 0 || what > 3) {
            return -1;
        }
        int count = 0;
        int worst = -1;
        for (int s = 3; s >= 0; s--) {
            if (!hasStation(s) || state.districts.get(s) != district || index(s, hour, 0) < 0) {
                continue;
            }
            count++;
            if (worst < 0 || index(s, hour, 0) >= index(worst, hour, 0)) {
                worst = s;
            }
        }
        if (what == 3) {
            return count;
        }
        return what == 1 || worst < 0 ? worst : index(worst, hour, what);
    }

    int lasts(int station, int hour, int band) {
        if (!hasStation(station) || !hasHour(hour) || band < 1 || band > 3) {
            return -1;
        }
        int first = hour;
        while (first >= 0 && index(station, first, 0) >= state.bands[band - 1]) {
            first--;
        }
        return hour - first;
    }

    int worst(int station, int from, int to) {
        if (!hasStation(station) || !hasHour(from) || !hasHour(to)) {
            return -1;
        }
        int worst = -1;
        for (int h = to; h >= from; h--) {
            if (index(station, h, 0) >= 0 && (worst < 0 || index(station, h, 0) >= index(station, worst, 0))) {
                worst = h;
            }
        }
        return worst;
    }

    int forecast(int station, int substance, int hour) {
        if (!has(station, substance, hour)) {
            return -1;
        }
        Float smoothed = null;
        for (int h = 0; h <= hour; h++) {
            int read = state.reads[station][substance][h];
            if (read >= 0) {
                smoothed = smoothed == null ? (float) read : smoothed + state.share / 100f * (read - smoothed);
            }
        }
        return smoothed == null ? -1 : smoothed.intValue();
    }

    int keeps(int station, int substance, int k) {
        int latest = state.now - 1;
        if (!has(station, substance, latest) || k < 0 || k > 2) {
            return -1;
        }
        int[] row = state.reads[station][substance];
        int before = row[latest];
        int answer = -2;
        for (int value = 999; value >= 0 && answer == -2; value--) {
            row[latest] = value;
            int index = index(station, latest, 0);
            if (index >= 0 && index < state.bands[k]) {
                answer = value;
            }
        }
        row[latest] = before;
        return answer;
    }

    int touches(int station, int substance, int hour, int value) {
        if (!has(station, substance, hour) || value < -1 || value > 999) {
            return -1;
        }
        int[] row = state.reads[station][substance];
        int before = row[hour];
        int[] indexes = new int[60];
        for (int h = 0; h < state.now; h++) {
            indexes[h] = index(station, h, 0);
        }
        row[hour] = value;
        int bits = 0;
        for (int h = 0; h < state.now; h++) {
            if (indexes[h] != index(station, h, 0)) {
                bits |= 1 << h - hour;
            }
        }
        row[hour] = before;
        return bits;
    }

    private void keep() {
        past.push(state.copy());
        while (past.size() > 10) {
            past.removeLast();
        }
    }

    int correct(int station, int substance, int hour, int value) {
        int bits = touches(station, substance, hour, value);
        if (bits < 0) {
            return -2;
        }
        keep();
        state.reads[station][substance][hour] = value;
        return Integer.bitCount(bits);
    }

    int pass(int hours) {
        if (hours < 1 || hours > 12 || state.now + hours > 60) {
            return -1;
        }
        keep();
        state.now += hours;
        return state.now;
    }

    int smooth(int share) {
        if (share < 0 || share > 100) {
            return -1;
        }
        keep();
        int before = state.share;
        state.share = share;
        return before;
    }

    boolean window(int substance, int window, int need) {
        if (!hasSubstance(substance) || window < 1 || window > 12 || need < 1 || need > window) {
            return false;
        }
        keep();
        state.windows.set(substance, new int[] {window, need});
        return true;
    }

    int undo() {
        if (past.isEmpty()) {
            return -1;
        }
        state = past.pop();
        return past.size();
    }
}
