import java.util.function.Supplier;

/** Counts the answers that are not as due, and prints each of them with the promise that it breaks. */
final class Checks {
    private String promise = "";
    private int count = 0;
    private int wrong = 0;

    void promise(int number, String name) {
        promise = "promise " + number + " (" + name + ")";
    }

    void due(Object want, Supplier<Object> call) {
        Object got;
        try {
            got = call.get();
        } catch (RuntimeException thrown) {
            got = thrown.getClass();
        }
        same(want, got);
    }

    void same(Object want, Object got) {
        count++;
        if (!want.equals(got)) {
            wrong++;
            StackTraceElement line = new Throwable().getStackTrace()[1];
            if (line.getClassName().equals("Checks")) {
                line = new Throwable().getStackTrace()[2];
            }
            System.out.println(promise + " at " + line + ": answered " + got + ", due is " + want);
        }
    }

    void close(String name) {
        System.out.println(name + ": " + count + " answers, " + wrong + " not as due");
        if (wrong != 0) {
            System.exit(1);
        }
    }
}
