import java.util.Random;

/** All promises: runs of calls at random, each answer as Model gives it. */
public final class ModelTest {
    private static final int RUNS = 1600;
    /** An object is used for at most 512 calls; the last step may be a whole text, which takes up to 36. */
    private static final int CALLS = 512 - 36;
    private static final int[] FAR = {-2, -1, 0, 3, 4, 12, 13, 24, 60, 61, 100, 101, 500, 501, 640, 999, 1000,
        Integer.MIN_VALUE, Integer.MAX_VALUE};
    private static final String[] SPICE = {";", " ", "\n", "x", "0", "1", "2", "500", "501", "999", "1000", "12", "13",
        "bands ", "smooth ", "substance ", "station ", "series ", "station 0;", "series 0 0 x;", "A", "-", "foo", "1a",
        "substance 1 1 0 0 9 9;", "bands 1 2 3;", "smooth 5;"};

    private final Random random;
    private AirIndex air;
    private Model model;
    private int calls;

    private ModelTest(long seed) {
        random = new Random(seed);
    }

    public static void main(String[] args) {
        for (int run = 0; run < RUNS; run++) {
            new ModelTest(run).play();
        }
        new ModelTest(-1).faults();
        Check.finish();
    }

    private void play() {
        air = new AirIndex();
        model = new Model();
        if (random.nextInt(8) > 0) {
            tell(goodText());
        }
        while (calls < CALLS) {
            calls++;
            call();
        }
    }

    private void faults() {
        for (int i = 0; i < 60000; i++) {
            air = new AirIndex();
            model = new Model();
            String text = goodText();
            for (int times = random.nextInt(3); times >= 0; times--) {
                text = spoil(text);
            }
            tell(text);
        }
    }

    /** Like ones come often, so that ties, edges and windows that just fill are met. */
    private int value() {
        int kind = random.nextInt(4);
        return kind == 0 ? random.nextInt(1000) : kind == 1 ? random.nextInt(60) : kind == 2 ? random.nextInt(4) * 25
            : random.nextInt(300);
    }

    private String goodText() {
        StringBuilder text = new StringBuilder("bands");
        int band = 0;
        for (int k = 0; k < 3; k++) {
            band += 1 + random.nextInt(random.nextBoolean() ? 160 : 40);
            text.append(' ').append(band);
        }
        text.append(";smooth ").append(random.nextInt(101)).append(';');
        int substances = 1 + random.nextInt(3);
        for (int s = 0; s < substances; s++) {
            int window = 1 + random.nextInt(12);
            text.append("substance ").append(window).append(' ').append(1 + random.nextInt(window));
            int level = random.nextInt(60);
            int index = random.nextInt(3) * random.nextInt(20);
            for (int points = 2 + random.nextInt(4); points > 0; points--) {
                text.append(' ').append(level).append(' ').append(index);
                level += 1 + random.nextInt(random.nextBoolean() ? 180 : 20);
                index += random.nextInt(4) == 0 ? 0 : random.nextInt(110);
            }
            text.append(';');
        }
        int stations = 1 + random.nextInt(4);
        for (int s = 0; s < stations; s++) {
            text.append("station ").append(random.nextInt(3)).append(';');
        }
        for (int pair = 0; pair < stations * substances; pair++) {
            if (random.nextInt(3) == 0) {
                continue;
            }
            StringBuilder series = new StringBuilder("series ");
            series.append(pair / substances).append(' ').append(pair % substances);
            for (int reads = 1 + random.nextInt(24); reads > 0; reads--) {
                series.append(' ').append(random.nextInt(3) == 0 ? "x" : String.valueOf(value()));
            }
            series.append(';');
            if (text.length() + series.length() <= 600) {
                text.append(series);
            }
        }
        return text.toString();
    }

    private String spoil(String text) {
        int at = random.nextInt(text.length() + 1);
        String spice = SPICE[random.nextInt(SPICE.length)];
        switch (random.nextInt(6)) {
            case 0:
                return text.substring(0, at);
            case 1:
                return text.substring(0, at) + spice + text.substring(at);
            case 2:
                return text.substring(0, at) + text.substring(Math.min(text.length(), at + 1 + random.nextInt(3)));
            case 3:
                return text.substring(0, at) + (char) random.nextInt(256)
                    + text.substring(Math.min(text.length(), at + 1));
            case 4:
                return " ".repeat(Math.max(0, 560 + random.nextInt(60) - text.length())) + text;
            default:
                String[] lines = text.split("(?<=;)");
                return text + lines[random.nextInt(lines.length)];
        }
    }

    private void tell(String told) {
        String text = told.length() > 640 ? told.substring(0, 640) : told;
        calls += 4 + (text.length() + 19) / 20;
        air.end(0);
        model.end(0);
        for (int fed = 0; fed < text.length(); fed += 20) {
            int[] words = new int[5];
            for (int i = 0; i < 20; i++) {
                int sign = fed + i < text.length() ? text.charAt(fed + i) : 0;
                words[i / 4] = words[i / 4] << 8 | sign;
            }
            Check.due("feed()", air.feed(words[0], words[1], words[2], words[3], words[4]),
                model.feed(words[0], words[1], words[2], words[3], words[4]));
        }
        Check.due("end(" + text.length() + ")", air.end(text.length()), model.end(text.length()));
        Check.due("text() of " + text, air.text(), model.text());
        Check.due("fault() of " + text, air.fault(), model.fault());
    }

    private int around(int most) {
        return random.nextInt(12) == 0 ? FAR[random.nextInt(FAR.length)] : random.nextInt(most);
    }

    private int hour() {
        return around(Math.max(1, model.now(0)));
    }

    private int station() {
        return around(model.now(2));
    }

    private int substance() {
        return around(model.now(1));
    }

    private int readOrMissing() {
        return random.nextInt(4) == 0 ? -1 : random.nextInt(12) == 0 ? FAR[random.nextInt(FAR.length)] : value();
    }

    private void call() {
        int a = station();
        int b = substance();
        int h = hour();
        int g = hour();
        int what = around(5);
        int value = readOrMissing();
        int window = around(13);
        int need = around(1 + Math.max(1, Math.min(12, window)));
        switch (random.nextInt(20)) {
            case 0:
                Check.due("now(" + what + ")", air.now(what + 2), model.now(what + 2));
                break;
            case 1:
                Check.due("read(" + a + ", " + b + ", " + h + ")", air.read(a, b, h), model.read(a, b, h));
                break;
            case 2:
                Check.due("mean(" + a + ", " + b + ", " + h + ")", air.mean(a, b, h), model.mean(a, b, h));
                break;
            case 3:
                Check.due("scale(" + b + ", " + value + ")", air.scale(b, value), model.scale(b, value));
                break;
            case 4:
                Check.due("back(" + b + ", " + value + ")", air.back(b, value), model.back(b, value));
                break;
            case 5:
                Check.due("sub(" + a + ", " + b + ", " + h + ")", air.sub(a, b, h), model.sub(a, b, h));
                break;
            case 6:
                Check.due("index(" + a + ", " + h + ", " + what + ")", air.index(a, h, what), model.index(a, h, what));
                break;
            case 7:
                int d = around(3);
                Check.due("district(" + d + ", " + h + ", " + what + ")",
                    air.district(d, h, what), model.district(d, h, what));
                break;
            case 8:
                Check.due("lasts(" + a + ", " + h + ", " + what + ")", air.lasts(a, h, what), model.lasts(a, h, what));
                break;
            case 9:
                Check.due("worst(" + a + ", " + g + ", " + h + ")", air.worst(a, g, h), model.worst(a, g, h));
                break;
            case 10:
                Check.due("forecast(" + a + ", " + b + ", " + h + ")", air.forecast(a, b, h), model.forecast(a, b, h));
                break;
            case 11:
                Check.due("keeps(" + a + ", " + b + ", " + what + ")", air.keeps(a, b, what), model.keeps(a, b, what));
                break;
            case 12:
                Check.due("touches(" + a + ", " + b + ", " + h + ", " + value + ")",
                    air.touches(a, b, h, value), model.touches(a, b, h, value));
                break;
            case 13:
            case 14:
                Check.due("correct(" + a + ", " + b + ", " + h + ", " + value + ")",
                    air.correct(a, b, h, value), model.correct(a, b, h, value));
                break;
            case 15:
                Check.due("pass(" + what + ")", air.pass(what), model.pass(what));
                break;
            case 16:
                Check.due("smooth(" + value + ")", air.smooth(value), model.smooth(value));
                break;
            case 17:
                Check.due("window(" + b + ", " + window + ", " + need + ")",
                    air.window(b, window, need), model.window(b, window, need));
                break;
            case 18:
                Check.due("undo()", air.undo(), model.undo());
                break;
            default:
                rarely(value);
                break;
        }
    }

    private void rarely(int n) {
        switch (random.nextInt(12)) {
            case 0:
                tell(spoil(goodText()));
                break;
            case 1:
                tell(goodText());
                break;
            case 2:
                Check.due("end(" + n + ")", air.end(n), model.end(n));
                break;
            case 3:
                Check.due("text()", air.text(), model.text());
                break;
            case 4:
                Check.due("fault()", air.fault(), model.fault());
                break;
            default:
                int[] w = random.ints(5).toArray();
                Check.due("feed()", air.feed(w[0], w[1], w[2], w[3], w[4]), model.feed(w[0], w[1], w[2], w[3], w[4]));
                break;
        }
    }
}
