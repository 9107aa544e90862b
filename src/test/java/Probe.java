import java.util.ArrayList;
import java.util.List;
import java.util.function.Consumer;
import java.util.function.Supplier;

/**
 * Asks an object all that it can be asked, so that two ways to make one can be compared. An object is used for at most
 * 512 calls, so that the questions go to many objects made alike.
 */
final class Probe {
    private static final int QUESTIONS = 300;

    private final Supplier<AirIndex> made;
    private final List<String> answers = new ArrayList<>();
    private AirIndex air;
    private int left;

    private Probe(Supplier<AirIndex> made) {
        this.made = made;
    }

    /** All answers of objects that are made so, each with its question. */
    static List<String> answers(Supplier<AirIndex> made) {
        Probe probe = new Probe(made);
        probe.places();
        probe.stations();
        probe.districts();
        probe.substances();
        probe.counts();
        probe.undoesAll();
        probe.readsTape();
        probe.feedsMore();
        return probe.answers;
    }

    /** Two ways to make an object, behind which no call tells one from the other. */
    static void same(String what, Supplier<AirIndex> made, Supplier<AirIndex> otherwise) {
        compare(what, answers(made), answers(otherwise));
    }

    static void compare(String what, List<String> due, List<String> got) {
        Check.due("how many answers behind " + what, got.size(), due.size());
        int differing = 0;
        String first = "";
        for (int i = 0; i < due.size() && i < got.size(); i++) {
            if (!due.get(i).equals(got.get(i))) {
                first = differing == 0 ? ", the first: " + got.get(i) + " where " + due.get(i) + " is due" : first;
                differing++;
            }
        }
        Check.due("how many other answers behind " + what + first, differing, 0);
    }

    /** The way to make an object, and then one call more. */
    static Supplier<AirIndex> with(Supplier<AirIndex> made, Consumer<AirIndex> call) {
        return () -> {
            AirIndex air = made.get();
            call.accept(air);
            return air;
        };
    }

    private AirIndex next() {
        if (left == 0) {
            air = made.get();
            left = QUESTIONS;
        }
        left--;
        return air;
    }

    private void answer(String question, int answer) {
        answers.add(question + " = " + answer);
    }

    private void places() {
        for (int station = 0; station <= 4; station++) {
            for (int substance = 0; substance <= 3; substance++) {
                for (int hour = 0; hour <= 60; hour++) {
                    String place = "(" + station + ", " + substance + ", " + hour + ")";
                    answer("read" + place, next().read(station, substance, hour));
                    answer("mean" + place, next().mean(station, substance, hour));
                    answer("forecast" + place, next().forecast(station, substance, hour));
                    if (hour % 7 == 0) {
                        answer("touches 999 at " + place, next().touches(station, substance, hour, 999));
                    }
                }
                for (int k = 0; k <= 2; k++) {
                    answer("keeps(" + station + ", " + substance + ", " + k + ")", next().keeps(station, substance, k));
                }
            }
        }
    }

    private void stations() {
        for (int station = 0; station <= 4; station++) {
            for (int hour = 0; hour <= 60; hour++) {
                answer("index(" + station + ", " + hour + ", 0)", next().index(station, hour, 0));
                answer("index(" + station + ", " + hour + ", 1)", next().index(station, hour, 1));
                answer("index(" + station + ", " + hour + ", 2)", next().index(station, hour, 2));
                answer("lasts(" + station + ", " + hour + ", 1)", next().lasts(station, hour, 1));
                answer("worst(" + station + ", 0, " + hour + ")", next().worst(station, 0, hour));
            }
        }
    }

    private void districts() {
        for (int district = 0; district <= 2; district++) {
            for (int hour = 0; hour <= 60; hour++) {
                answer("district(" + district + ", " + hour + ", 1)", next().district(district, hour, 1));
                answer("district(" + district + ", " + hour + ", 3)", next().district(district, hour, 3));
            }
        }
    }

    private void substances() {
        for (int substance = 0; substance <= 3; substance++) {
            for (int number = 0; number <= 999; number += 9) {
                answer("scale(" + substance + ", " + number + ")", next().scale(substance, number));
                answer("back(" + substance + ", " + number / 2 + ")", next().back(substance, number / 2));
            }
        }
    }

    private void counts() {
        answer("fault()", next().fault());
        for (int what = 0; what <= 6; what++) {
            answer("now(" + what + ")", next().now(what));
        }
    }

    /** What is kept to be undone shows by undoing it. */
    private void undoesAll() {
        air = made.get();
        for (int times = 1; times <= 11; times++) {
            String behind = " behind undo() " + times;
            answer("undo() " + times, air.undo());
            for (int what = 0; what <= 5; what++) {
                answer("now(" + what + ")" + behind, air.now(what));
            }
            for (int pair = 0; pair < 6; pair++) {
                int hour = air.now(0) - 1 - pair % 3;
                answer("read()" + behind, air.read(pair % 2, pair / 2, hour));
                answer("mean()" + behind, air.mean(pair % 2, pair / 2, hour));
            }
        }
        left = 0;
    }

    /** What stands on the tape shows by reading it. */
    private void readsTape() {
        air = made.get();
        answer("text()", air.text());
        answer("fault() of it", air.fault());
        for (int what = 0; what <= 6; what++) {
            answer("now(" + what + ") behind text()", air.now(what));
        }
        for (int hour = 0; hour < 24; hour++) {
            answer("read(0, 0, " + hour + ") behind text()", air.read(0, 0, hour));
        }
        left = 0;
    }

    private void feedsMore() {
        air = made.get();
        int bytes = air.now(6);
        answer("end() one byte too far", air.end(bytes + 1) ? 1 : 0);
        answer("feed()", air.feed(0, 1, 2, 3, 4));
        answer("end() where it was", air.end(bytes) ? 1 : 0);
        answer("text() behind feed() and end()", air.text());
        left = 0;
    }
}
