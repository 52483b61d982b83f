import java.io.IOException;
import java.nio.file.Files;
import java.nio.file.Path;
import java.util.ArrayList;
import java.util.Arrays;
import java.util.List;
import java.util.TreeSet;
import java.util.regex.Matcher;
import java.util.regex.Pattern;

/** What README.md says of the use of the class and of its tests is so; it is run where src stands. */
public final class ReadmeTest {
    private static final Path README = Path.of("README.md");
    private static final Path TESTS = Path.of("src/test/java");
    /** A call, what it answers, and a remark. */
    private static final Pattern ANSWERED = Pattern.compile("(.+); +// (true|false|\\d+|'.'|\\w+Exception): .*");
    private static final String[] BY_EXAMPLE = {
        "GuestsTest", "CoatsTest", "ContestsTest", "TimeTest", "ChairsTest", "CommandsTest", "LineTest", "UndoTest",
    };

    private final Checks checks = new Checks();
    private final String readme = Files.readString(README);

    private ReadmeTest() throws IOException {
    }

    public static void main(String[] args) throws IOException {
        ReadmeTest test = new ReadmeTest();
        test.checks.label("README.md");
        test.theUse();
        test.theUseIsTheReadmes();
        test.theFilesAreThere();
        test.eachTestIsNamed();
        test.eachPromiseHasItsExample();
        test.checks.close("ReadmeTest");
    }

    /** The lines of code of README.md in their order, each that is said to answer something as a check of it. */
    private void theUse() {
        HatReservations hall = new HatReservations();
        int anna = hall.addGuest(3, 1);
        int ben = hall.addGuest(1, 2);
        int cleo = hall.addGuest(5, 0);
        checks.due(3, () -> hall.placeHat(anna, 15));
        checks.due((1L << 14) + (1L << 15) + (1L << 16), () -> hall.coveredMask());
        checks.due(UnsupportedOperationException.class, () -> hall.placeHat(ben, 16));
        checks.due(0, () -> hall.leaveCoat(ben, 14));
        checks.due(true, () -> hall.contest(cleo, 15));
        checks.due(1, () -> hall.covererOf(14));
        checks.due(10, () -> hall.describeRow(1));
        checks.due('B', () -> hall.lineAt(4));
        checks.due("..bbBC....", () -> Halls.line(hall, 1));
        checks.due(5, () -> hall.undo());
        checks.due(1, () -> hall.save());
        checks.due(true, () -> hall.isPlaced(anna));
        for (char sign : "pass 30;lift 0;fetch 1".toCharArray()) {
            hall.append(sign);
        }
        checks.due(IllegalStateException.class, () -> hall.run());
        checks.due(2, () -> hall.failedCommand());
        checks.due(2, () -> hall.failedException());
        checks.due(0, () -> hall.now());
        for (char sign : "pass 30;lift 0".toCharArray()) {
            hall.append(sign);
        }
        checks.due(2, () -> hall.run());
        checks.due(1, () -> hall.covererOf(15));
        checks.due(1, () -> hall.restore());
        checks.due(0, () -> hall.covererOf(15));
        checks.due(IllegalStateException.class, () -> hall.undo());
        checks.due(3, () -> Halls.run(new HatReservations(), "guest 31;hat 0 15;pass 30"));
    }

    private void theUseIsTheReadmes() throws IOException {
        List<String> own = Files.readAllLines(TESTS.resolve("ReadmeTest.java")).stream().map(String::trim).toList();
        int place = 0;
        for (String line : codeOfTheReadme()) {
            int found = own.subList(place, own.size()).indexOf(line);
            checks.same(line, found < 0 ? "does not stand in ReadmeTest" : line);
            place += found + 1;
        }
        checks.same(true, place > 0);
        Matcher quoted = Pattern.compile("// .*(\"[^\"\n]+\")").matcher(readme);
        while (quoted.find()) {
            String line = "checks.due(" + quoted.group(1) + ", () -> Halls.line(hall, 1));";
            checks.same(line, own.contains(line) ? line : "does not stand in ReadmeTest");
        }
    }

    private List<String> codeOfTheReadme() {
        List<String> code = new ArrayList<>();
        boolean isCode = false;
        for (String line : readme.split("\n")) {
            if (line.startsWith("```")) {
                isCode = !isCode;
            } else if (isCode) {
                code.add(asStatement(line));
            }
        }
        return code;
    }

    private static String asStatement(String line) {
        Matcher answered = ANSWERED.matcher(line);
        if (!answered.matches()) {
            return line.replaceAll(" +//.*", "").trim();
        }
        String answer = answered.group(2) + (answered.group(2).endsWith("Exception") ? ".class" : "");
        return "checks.due(" + answer + ", () -> " + answered.group(1) + ");";
    }

    private void theFilesAreThere() {
        Matcher path = Pattern.compile("(?:`|    )([.\\w]+/[./\\w]*)(?:`|\n)").matcher(readme);
        int count = 0;
        while (path.find()) {
            String name = path.group(1);
            checks.same(name, Files.exists(Path.of(name)) ? name : "is not there");
            count++;
        }
        checks.same(true, count >= 5);
        checks.same(true, Files.isExecutable(Path.of(".ci/run")));
        for (String name : namesWith("[A-Z]\\w+(?:Boundaries|Hall)")) {
            checks.same(name, Files.exists(TESTS.resolve(name + ".java")) ? name : "is not there");
        }
    }

    private void eachTestIsNamed() throws IOException {
        TreeSet<String> files = new TreeSet<>();
        try (var paths = Files.list(TESTS)) {
            paths.map(path -> path.getFileName().toString()).filter(name -> name.endsWith("Test.java"))
                    .forEach(name -> files.add(name.replace(".java", "")));
        }
        checks.same(files, namesWith("[A-Z]\\w+Test"));
    }

    /** The names of this kind that stand between backticks. */
    private TreeSet<String> namesWith(String kind) {
        TreeSet<String> names = new TreeSet<>();
        Matcher name = Pattern.compile("`(" + kind + ")`").matcher(readme);
        while (name.find()) {
            names.add(name.group(1));
        }
        return names;
    }

    private void eachPromiseHasItsExample() throws IOException {
        checks.same(true, namesWith("[A-Z]\\w+Test").containsAll(Arrays.asList(BY_EXAMPLE)));
        StringBuilder examples = new StringBuilder();
        for (String name : BY_EXAMPLE) {
            examples.append(Files.readString(TESTS.resolve(name + ".java")));
        }
        Matcher heading = Pattern.compile("(?m)^## Promise (\\d+): (.+)$").matcher(Files.readString(Document.PLACE));
        int count = 0;
        while (heading.find()) {
            String label = "promise(" + heading.group(1) + ", \"" + heading.group(2) + "\")";
            boolean stands = examples.toString().toLowerCase().contains(label.toLowerCase());
            checks.same(label, stands ? label : "has no example");
            count++;
        }
        checks.same(52, count);
    }
}
