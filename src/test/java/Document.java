import java.io.IOException;
import java.nio.file.Files;
import java.nio.file.Path;
import java.util.ArrayList;
import java.util.List;
import java.util.Map;
import java.util.TreeMap;
import java.util.regex.Matcher;
import java.util.regex.Pattern;

/** The sentences of the document by their sections; it is read where src stands. */
final class Document {
    static final Path PLACE = Path.of("../shared/DOC.md");

    private static final Pattern METHOD =
            Pattern.compile("    public (\\w+ \\w+)\\((.*)\\)(?: throws (.*))?;");

    private Document() {
    }

    static Map<String, List<String>> sentences() throws IOException {
        Map<String, List<String>> sections = new TreeMap<>();
        String section = "";
        boolean isCode = false;
        for (String line : Files.readAllLines(PLACE)) {
            if (line.startsWith("#")) {
                section = line.replaceAll("^#+ |:.*", "");
            } else if (line.startsWith("```")) {
                isCode = !isCode;
            } else if (!isCode && !line.startsWith("Ahead of the calls")) {
                sections.computeIfAbsent(section, name -> new ArrayList<>()).addAll(split(line));
            }
        }
        return sections;
    }

    /** The methods of the public face, each as "int sweep(int) IllegalArgumentException". */
    static List<String> face() throws IOException {
        List<String> face = new ArrayList<>();
        for (String line : Files.readAllLines(PLACE)) {
            Matcher method = METHOD.matcher(line);
            if (method.matches()) {
                String parameters = method.group(2).replaceAll("(\\w+) \\w+", "$1");
                String thrown = method.group(3) == null ? "" : " " + method.group(3).replace(",", "");
                face.add(method.group(1) + "(" + parameters + ")" + thrown);
            }
        }
        return face;
    }

    private static List<String> split(String line) {
        List<String> sentences = new ArrayList<>();
        for (String sentence : line.replaceAll("^`[^`]*`: ", "").split("(?<=\\.) (?=[A-Z])")) {
            boolean isLabel = !sentence.contains(" ");
            if (!isLabel) {
                sentences.add(sentence);
            }
        }
        return sentences;
    }

    /** Whether each sentence of this kind must have a test of its own; of the others those have one that name an edge. */
    static boolean needsTest(String section, String sentence) {
        if (section.equals("Terms")) {
            return true;
        }
        return section.startsWith("Promise") && sentence.matches("Throws .*|- .*\\d.*");
    }
}
