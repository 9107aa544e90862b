import java.io.IOException;
import java.lang.reflect.Method;
import java.lang.reflect.Modifier;
import java.nio.file.DirectoryStream;
import java.nio.file.Files;
import java.nio.file.Path;
import java.util.ArrayList;
import java.util.List;
import java.util.TreeSet;
import java.util.regex.Matcher;
import java.util.regex.Pattern;

/**
 * README.md, in the directory that the test is run in: each call that it shows is made, top down, and has the answer
 * shown behind it, by the class and by Model; the bytes that it feeds are those of the text that it shows.
 */
public final class ReadmeTest {
    private static final Path README = Path.of("README.md");
    private static final Path TESTS = Path.of("src", "test", "java");
    private static final String NEW_OBJECT = "AirIndex air = new AirIndex();";
    private static final Pattern CALL = Pattern.compile("air\\.(\\w+)\\(([^()]*)\\); +// (-?\\d+|NONE|true|false)(:.*)?");
    private static final Pattern QUOTED = Pattern.compile("\"(.*)\"");

    private final TreeSet<String> shown = new TreeSet<>();
    private final StringBuilder fed = new StringBuilder();
    private AirIndex air;
    private Model model;
    private int calls;

    public static void main(String[] args) throws IOException, ReflectiveOperationException {
        List<String> lines = Files.readAllLines(README);
        ReadmeTest readme = new ReadmeTest();
        readme.makesCalls(block(lines, "java"));
        readme.feedsText(String.join("\n", block(lines, "text")));
        readme.showsFace();
        namesTests(String.join("\n", lines));
        Check.finish();
    }

    /** The lines of all blocks of that kind, in their order. */
    private static List<String> block(List<String> lines, String kind) {
        List<String> found = new ArrayList<>();
        String open = "";
        for (String line : lines) {
            if (line.startsWith("```")) {
                open = open.isEmpty() ? line.substring(3) : "";
            } else if (open.equals(kind)) {
                found.add(line);
            }
        }
        Check.due("README.md has lines of " + kind, found.isEmpty(), false);
        return found;
    }

    private void makesCalls(List<String> lines) throws ReflectiveOperationException {
        for (String line : lines) {
            Matcher call = CALL.matcher(line);
            if (line.equals(NEW_OBJECT)) {
                air = new AirIndex();
                model = new Model();
                calls = 0;
            } else if (call.matches() && air != null) {
                makesCall(line, call);
            } else {
                Check.due("README.md shows a call with its answer: " + line, false, true);
            }
        }
    }

    private void makesCall(String line, Matcher call) throws ReflectiveOperationException {
        String name = call.group(1);
        String[] shownNumbers = call.group(2).isEmpty() ? new String[0] : call.group(2).split(", ");
        Class<?>[] types = new Class<?>[shownNumbers.length];
        Object[] numbers = new Object[shownNumbers.length];
        for (int i = 0; i < numbers.length; i++) {
            types[i] = int.class;
            numbers[i] = Integer.decode(shownNumbers[i]);
        }
        String due = call.group(3).equals("NONE") ? String.valueOf(AirIndex.NONE) : call.group(3);
        Object answer = AirIndex.class.getMethod(name, types).invoke(air, numbers);
        Object answerOfModel = Model.class.getDeclaredMethod(name, types).invoke(model, numbers);
        Check.due("README.md: " + line + " but answered " + answer, answer.toString().equals(due), true);
        Check.due("README.md: " + line + " but Model answers " + answerOfModel, answerOfModel.toString().equals(due), true);
        calls++;
        Check.due("README.md: an object is for 512 calls: " + line, calls <= 512, true);
        shown.add(name);
        if (name.equals("feed")) {
            quotesBytes(line, numbers);
        }
    }

    /** What a fed line quotes are its bytes; what fills them up is 0. */
    private void quotesBytes(String line, Object[] numbers) {
        StringBuilder bytes = new StringBuilder();
        for (Object number : numbers) {
            for (int shift = 24; shift >= 0; shift -= 8) {
                bytes.append((char) ((Integer) number >> shift & 255));
            }
        }
        Matcher quoted = QUOTED.matcher(line);
        String text = quoted.find() ? quoted.group(1).replace("\\n", "\n") : "";
        String filled = text + "\0".repeat(Math.max(0, 20 - text.length()));
        Check.due("README.md quotes what is fed: " + line, bytes.toString().equals(filled), true);
        fed.append(text);
    }

    private void feedsText(String text) {
        Check.due("README.md feeds the text that it shows", fed.toString().startsWith(text), true);
    }

    private void showsFace() {
        for (Method method : AirIndex.class.getDeclaredMethods()) {
            if (Modifier.isPublic(method.getModifiers())) {
                Check.due("README.md shows " + method.getName() + "()", shown.contains(method.getName()), true);
            }
        }
    }

    private static void namesTests(String readme) throws IOException {
        int tests = 0;
        try (DirectoryStream<Path> files = Files.newDirectoryStream(TESTS, "*Test.java")) {
            for (Path file : files) {
                String name = file.getFileName().toString().replace(".java", "");
                Check.due("README.md names " + name, readme.contains("| `" + name + "` |"), true);
                tests++;
            }
        }
        Check.due("there are tests in " + TESTS, tests > 0, true);
    }
}
