import java.io.IOException;
import java.nio.file.Files;
import java.nio.file.Path;
import java.util.regex.Matcher;
import java.util.regex.Pattern;

/** The rules of LANGUAGE.md that can be seen in the text of the class; it is run where src stands. */
public final class LanguageTest {
    private static final String[] FORBIDDEN = {
        "->", "::", "Exact\\(", "\\btry\\b", "\\bcatch\\b", "\\bfinally\\b", "\\bsynchronized\\b", "\\bassert\\b",
        "\\bequals\\(", "\\bhashCode\\(", "\\btoString\\(", "static \\{", "\\bpackage\\b", "\\bprotected\\b",
        "\\bSystem\\.(?!arraycopy)", "\\bNaN\\b", "\" \\+|\\+ \"", "\\bvar\\b", "[^\\x00-\\x7f]",
        "(?m)^import (?!java\\.util\\.NoSuchElementException;)",
        "(?m)^ *(private )?static (?!final|int|long|boolean|char|void|double|float)",
    };

    public static void main(String[] args) throws IOException {
        Checks checks = new Checks();
        checks.promise(0, "LANGUAGE.md");
        String text = Files.readString(Path.of("src/main/java/HatReservations.java"));
        String code = text.replaceAll("(?s)/\\*.*?\\*/|//[^\n]*", "");
        for (String rule : FORBIDDEN) {
            Matcher found = Pattern.compile(rule).matcher(code);
            checks.same("no " + rule, found.find() ? "found " + found.group() : "no " + rule);
        }
        Matcher thrown = Pattern.compile("throw (?!new [A-Za-z]+Exception\\(\"[^\"]+\"\\);)").matcher(code);
        checks.same(false, thrown.find());
        checks.same("no long method", longMethod(code));
        checks.close("LanguageTest");
    }

    private static String longMethod(String code) {
        String indent = null;
        String name = "";
        int length = 0;
        for (String line : code.split("\n")) {
            length++;
            if (indent == null && line.matches("^ +.*\\) ?(throws .*)?\\{$") && !line.matches("^ +(if|for|switch) .*")) {
                indent = line.replaceAll("\\S.*", "");
                name = line;
                length = 0;
            } else if (indent != null && line.equals(indent + "}")) {
                if (length > 60) {
                    return name;
                }
                indent = null;
            }
        }
        return "no long method";
    }
}
