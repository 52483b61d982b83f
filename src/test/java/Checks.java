import java.util.function.Supplier;

/** Counts the answers that are not as due, and prints each of them with the promise that it breaks. */
final class Checks {
    private String promise = "";
    private int count = 0;
    private int wrong = 0;

    void promise(int number, String name) {
        label("promise " + number + " (" + name + ")");
    }

    void label(String text) {
        promise = text;
    }

    int count() {
        return count;
    }

    void due(Object want, Supplier<Object> call) {
        same(want, answer(call));
    }

    /** What the call answers, or the class of what it throws. */
    static Object answer(Supplier<Object> call) {
        try {
            return call.get();
        } catch (RuntimeException thrown) {
            return thrown.getClass();
        }
    }

    void same(Object want, Object got) {
        count++;
        if (!want.equals(got)) {
            wrong++;
            System.out.println(promise + " at " + lineOfTheTest() + ": answered " + got + ", due is " + want);
        }
    }

    private static StackTraceElement lineOfTheTest() {
        StackTraceElement[] lines = new Throwable().getStackTrace();
        for (StackTraceElement line : lines) {
            if (!line.getClassName().matches("Checks|Boundaries")) {
                return line;
            }
        }
        return lines[0];
    }

    void close(String name) {
        System.out.println(name + ": " + count + " answers, " + wrong + " not as due");
        if (wrong != 0) {
            System.exit(1);
        }
    }
}
