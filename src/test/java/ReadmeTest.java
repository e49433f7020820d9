import java.io.IOException;
import java.nio.file.Files;
import java.nio.file.Path;
import java.util.ArrayList;
import java.util.List;
import java.util.Map;
import java.util.TreeSet;
import java.util.regex.Matcher;
import java.util.regex.Pattern;
import java.util.stream.Stream;

/** README.md tells every call, its numbers and its refusals as the document does; its example is true. */
public final class ReadmeTest {

    private static final Map<String, Integer> REFUSALS = Map.of("UNKNOWN", FourWalls.UNKNOWN,
        "OUTSIDE", FourWalls.OUTSIDE, "NOT", FourWalls.NOT, "FULL", FourWalls.FULL);

    /** The calls of the document in their order, each with the refusals of its promise. */
    private static final String[] CALLS = {
        "feed(letter) OUTSIDE FULL", "house()", "fault()", "told(what) OUTSIDE", "thick(k) UNKNOWN",
        "sound(s, what) UNKNOWN OUTSIDE", "witness(w, what) UNKNOWN OUTSIDE", "morning(s, x) UNKNOWN FULL",
        "move(w, x) UNKNOWN", "wall(k, t) UNKNOWN OUTSIDE", "wind(b) OUTSIDE NOT", "drift(n) OUTSIDE NOT FULL",
        "undo() NOT", "comes(s, x, y) UNKNOWN", "says(w, s, x) UNKNOWN", "listen(s, x, e) UNKNOWN OUTSIDE",
        "deaf(s) UNKNOWN", "ears(s, places, e) UNKNOWN OUTSIDE", "alike(x, i) UNKNOWN",
        "hides(k, s, x) UNKNOWN", "midwife(is, a, b, f, q) OUTSIDE", "bargain(v, o, c, what) OUTSIDE",
        "found(places) UNKNOWN", "say(w, saying) UNKNOWN OUTSIDE FULL", "births(i) NOT",
        "liars(pair) UNKNOWN NOT", "leastLiars(what) OUTSIDE NOT", "ask() NOT", "write(heard) OUTSIDE FULL",
        "tear()", "judge()", "seed(v) OUTSIDE", "keep(i) UNKNOWN", "goBack(i) UNKNOWN NOT"};

    private final String readme = Files.readString(Path.of("README.md"));

    private ReadmeTest() throws IOException {
    }

    public static void main(String[] args) throws IOException {
        ReadmeTest test = new ReadmeTest();
        test.calls();
        test.refusalNumbers();
        test.example();
        test.faults();
        test.tests();
        Due.end("ReadmeTest");
    }

    private static List<String> found(String pattern, String text) {
        List<String> found = new ArrayList<>();
        Matcher matcher = Pattern.compile(pattern, Pattern.MULTILINE).matcher(text);
        while (matcher.find()) {
            found.add(matcher.group(1));
        }
        return found;
    }

    private static void same(String what, Object got, Object want) {
        Due.due(what + ": " + got + ", due is " + want, got.equals(want) ? 1 : 0, 1);
    }

    private void calls() {
        Due.due("calls of the document", CALLS.length, 34);
        List<String> told = new ArrayList<>();
        Matcher row = Pattern.compile("^\\| `(\\w+\\([^)]*\\))` \\|.*\\|(.*)\\|$", Pattern.MULTILINE).matcher(readme);
        while (row.find()) {
            List<String> words = found("\\b(UNKNOWN|OUTSIDE|NOT|FULL)\\b", row.group(2));
            told.add((row.group(1) + " " + String.join(" ", words)).trim());
        }
        same("calls", told, List.of(CALLS));
    }

    private void refusalNumbers() {
        for (String name : REFUSALS.keySet()) {
            List<String> numbers = found("^\\| `" + name + "` \\| (-\\d+) \\|", readme);
            same(name, numbers, List.of(String.valueOf(REFUSALS.get(name))));
        }
    }

    /** The rows "x.call(..);  // answer: .." of the example are run on one object. */
    private void example() {
        List<String> rows = new ArrayList<>();
        rows.add("text " + found("\"(.*)\"\\.toCharArray", readme).get(0));
        Matcher call = Pattern.compile("^x\\.(\\w+)\\((.*)\\); +// ([-\\w]+): ", Pattern.MULTILINE).matcher(readme);
        while (call.find()) {
            String numbers = call.group(2).replace("FourWalls.", "").replace(",", " ");
            rows.add(call.group(1) + " " + numbers + " = " + call.group(3));
        }
        Due.due("rows of the example", rows.size(), found("^(x\\..*)$", readme).size() + 1);
        Script.run("the example of README.md", rows.toArray(new String[0]));
    }

    private void faults() {
        same("faults", found("^\\| (-1[0-9]) \\|", readme), List.of("-11", "-12", "-13"));
        Script.text("a letter that cannot stand there", "h1;x", -11, 3);
        Script.text("a number out of its bounds", "h1;v19;", -12, 4);
        Script.text("a second h", "h1;h", -13, 3);
    }

    private void tests() throws IOException {
        TreeSet<String> there = new TreeSet<>();
        try (Stream<Path> files = Files.list(Path.of("src/test/java"))) {
            files.map(file -> file.getFileName().toString()).filter(name -> name.endsWith("Test.java"))
                .forEach(name -> there.add(name.replace(".java", "")));
        }
        same("tests", new TreeSet<>(found("^\\| `(\\w+Test)` \\|", readme)), there);
    }
}
