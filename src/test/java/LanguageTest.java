import java.io.IOException;
import java.lang.reflect.Field;
import java.lang.reflect.Method;
import java.lang.reflect.Modifier;
import java.nio.file.Files;
import java.nio.file.Path;
import java.util.Map;
import java.util.Set;
import java.util.TreeMap;
import java.util.TreeSet;
import java.util.regex.Matcher;
import java.util.regex.Pattern;

/** The rules of LANGUAGE.md that can be seen in the text of the class; it is run where src stands. */
public final class LanguageTest {
    private static final String[] FORBIDDEN = {
        "->", "::", "Exact\\(", "\\btry\\b", "\\bcatch\\b", "\\bfinally\\b", "\\bsynchronized\\b", "\\bassert\\b",
        "\\bequals\\(", "\\bhashCode\\(", "\\btoString\\(", "static \\{", "\\bpackage\\b", "\\bprotected\\b",
        "\\bSystem\\.(?!arraycopy)", "\\bNaN\\b", "\" \\+|\\+ \"", "\\bvar\\b", "[^\\x00-\\x7f]",
        "(?m)^import (?!java\\.util\\.NoSuchElementException;)",
        "(?m)^ *(private )?static (?!final|int|long|boolean|char|void|double|float)",
    };

    private static final Pattern METHOD_HEAD =
            Pattern.compile("^ {4,8}(?:public |private |static )*(?:int|long|boolean|char|void|double|float|Command) (\\w+)\\(");

    public static void main(String[] args) throws IOException {
        Checks checks = new Checks();
        checks.promise(0, "LANGUAGE.md");
        String text = Files.readString(Path.of("src/main/java/HatReservations.java"));
        String code = text.replaceAll("(?s)/\\*.*?\\*/|//[^\n]*", "");
        for (String rule : FORBIDDEN) {
            Matcher found = Pattern.compile(rule).matcher(code);
            checks.same("no " + rule, found.find() ? "found " + found.group() : "no " + rule);
        }
        Matcher thrown = Pattern.compile("throw (?!new [A-Za-z]+Exception\\(\"[^\"]+\"\\);)").matcher(code);
        checks.same(false, thrown.find());
        checks.same("no long method", longMethod(code));
        System.out.println("the deepest calls go " + deepestCall(callsByMethod(code)) + " deep");
        checks.same(true, deepestCall(callsByMethod(code)) <= 8);
        checks.same("no other call", otherCall(code));
        sizes(checks);
        checks.close("LanguageTest");
    }

    /** A call of the library that is not among those of rule 4 that the class needs. */
    private static String otherCall(String code) {
        String library = "\\b(?:String|Integer|Long|Math|System|Arrays|Character|List|Boolean)\\.\\w+";
        Matcher call = Pattern.compile(library).matcher(code);
        while (call.find()) {
            if (!call.group().matches("Long\\.bitCount|Math\\.(max|min)|System\\.arraycopy")) {
                return call.group();
            }
        }
        return "no other call";
    }

    /** Rules 1 and 11: the names of private methods, and how large the classes are. */
    private static void sizes(Checks checks) {
        Class<?>[] inside = HatReservations.class.getDeclaredClasses();
        checks.same(true, inside.length + 1 <= 12);
        Set<String> face = new TreeSet<>();
        for (Method method : HatReservations.class.getDeclaredMethods()) {
            if (Modifier.isPublic(method.getModifiers())) {
                face.add(method.getName());
            }
        }
        for (Method method : HatReservations.class.getDeclaredMethods()) {
            checks.same(false, !Modifier.isPublic(method.getModifiers()) && face.contains(method.getName()));
        }
        for (Class<?> own : inside) {
            checks.same(false, Modifier.isPublic(own.getModifiers()) || Modifier.isProtected(own.getModifiers()));
            checks.same(true, Modifier.isStatic(own.getModifiers()));
            for (Method method : own.getDeclaredMethods()) {
                checks.same("", face.contains(method.getName()) ? method.getName() : "");
                checks.same(true, method.getParameterCount() <= 7);
            }
            checks.same(true, countFields(own) <= 20);
        }
        checks.same(true, countFields(HatReservations.class) <= 20);
    }

    private static int countFields(Class<?> own) {
        int count = 0;
        for (Field field : own.getDeclaredFields()) {
            count += Modifier.isStatic(field.getModifiers()) ? 0 : 1;
        }
        return count;
    }

    /** The names that each method calls, as if no two methods had one name. */
    private static Map<String, Set<String>> callsByMethod(String code) {
        Map<String, Set<String>> calls = new TreeMap<>();
        String method = null;
        for (String line : code.split("\n")) {
            Matcher head = METHOD_HEAD.matcher(line);
            if (head.find()) {
                method = head.group(1);
                calls.putIfAbsent(method, new TreeSet<>());
            } else if (method != null) {
                Matcher call = Pattern.compile("\\b([a-z]\\w*)\\(").matcher(line);
                while (call.find()) {
                    calls.get(method).add(call.group(1));
                }
            }
        }
        return calls;
    }

    private static int deepestCall(Map<String, Set<String>> calls) {
        Map<String, Integer> depths = new TreeMap<>();
        // each round lets the depths grow by one call, so a recursion grows past the limit too
        for (int round = 0; round < 20; round++) {
            for (String method : calls.keySet()) {
                int deepest = 0;
                for (String called : calls.get(method)) {
                    boolean isKeyword = called.matches("if|for|while|switch|return");
                    deepest = Math.max(deepest, isKeyword ? 0 : depths.getOrDefault(called, 1));
                }
                depths.put(method, deepest + 1);
            }
        }
        return depths.values().stream().max(Integer::compare).orElse(0);
    }

    private static String longMethod(String code) {
        String indent = null;
        String name = "";
        int length = 0;
        for (String line : code.split("\n")) {
            length++;
            if (indent == null && line.matches("^ +.*\\) ?(throws .*)?\\{$") && !line.matches("^ +(if|for|switch) .*")) {
                indent = line.replaceAll("\\S.*", "");
                name = line;
                length = 0;
            } else if (indent != null && line.equals(indent + "}")) {
                if (length > 60) {
                    return name;
                }
                indent = null;
            }
        }
        return "no long method";
    }
}
