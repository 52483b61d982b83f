import java.lang.reflect.InvocationTargetException;
import java.lang.reflect.Method;
import java.lang.reflect.Modifier;
import java.util.ArrayList;
import java.util.Comparator;
import java.util.List;

/** Long runs of calls, the same each time, answered by HatReservations and by PlainHall. */
public final class ModelTest {
    private static final int RUNS = 200;
    private static final int CALLS = 512;
    private static final String[] CHANGES = {
        "placeHat", "placeHat", "placeHat", "leaveCoat", "leaveCoat", "leaveCoat", "contest", "contest", "removeHat",
        "touchHat", "takeCoat", "giveFeather", "pass", "sweep", "addGuest", "undo", "save", "restore",
    };
    private static final String[] KEYWORDS = {
        "guest ", "hat ", "lift ", "touch ", "coat ", "fetch ", "contest ", "pass ", "sweep ", "feather ",
    };

    private final Checks checks = new Checks();
    private final List<Method> methods = new ArrayList<>();
    private long seed;
    private HatReservations hall;
    private PlainHall plain;
    private String trace = "";

    public static void main(String[] args) {
        ModelTest test = new ModelTest();
        test.checks.promise(0, "all promises, by the model");
        for (Method method : HatReservations.class.getDeclaredMethods()) {
            if (Modifier.isPublic(method.getModifiers())) {
                test.methods.add(method);
            }
        }
        test.methods.sort(Comparator.comparing(Method::getName));
        for (int run = 0; run < RUNS; run++) {
            test.oneRun(run);
        }
        test.checks.close("ModelTest");
    }

    private int next(int bound) {
        seed = seed * 6364136223846793005L + 1442695040888963407L;
        return (int) ((seed >>> 33) % bound);
    }

    private void oneRun(int run) {
        seed = run * 7919L + 17;
        hall = new HatReservations();
        plain = new PlainHall();
        trace = "";
        int guests = next(9);
        for (int guest = 0; guest < guests; guest++) {
            call("addGuest", next(10), next(3));
        }
        for (int calls = 0; calls < CALLS; calls++) {
            step();
            if (calls % 16 == 15) {
                compareEverything();
            }
        }
    }

    private void step() {
        int kind = next(10);
        if (kind < 6) {
            callChange();
        } else if (kind < 8) {
            Method method = methods.get(next(methods.size()));
            call(method.getName(), next(10) - 1, next(13) - 1);
        } else {
            String text = commandText();
            for (int index = 0; index < text.length(); index++) {
                call("append", text.charAt(index), 0);
            }
            call("run", 0, 0);
        }
    }

    private void callChange() {
        String name = CHANGES[next(CHANGES.length)];
        // rare, or the halls stay nearly empty
        if (name.equals("restore") && next(4) != 0) {
            return;
        }
        if (name.equals("pass")) {
            call(name, next(20) == 0 ? next(70) - 3 : 1 + next(12), 0);
        } else if (name.equals("sweep")) {
            call(name, next(20) == 0 ? next(260) - 3 : 20 + next(40), 0);
        } else {
            call(name, next(20) == 0 ? next(12) - 2 : next(8), next(20) == 0 ? next(60) - 10 : chairInAFewRows());
        }
    }

    /** Crowded rows meet each other more often than even ones. */
    private int chairInAFewRows() {
        return next(3) == 0 ? next(40) : 8 + next(8);
    }

    private String commandText() {
        StringBuilder text = new StringBuilder();
        int commands = 1 + next(next(4) == 0 ? 9 : 4);
        for (int command = 0; command < commands; command++) {
            String keyword = KEYWORDS[next(KEYWORDS.length)];
            text.append(command == 0 ? "" : ";").append(keyword);
            if (keyword.equals("guest ")) {
                text.append(next(10)).append(next(3));
            } else if (keyword.equals("pass ") || keyword.equals("sweep ")) {
                text.append(1 + next(60));
            } else {
                text.append(next(8));
                boolean hasChair = keyword.equals("hat ") || keyword.equals("coat ") || keyword.equals("contest ");
                text.append(hasChair ? " " + (next(8) == 0 ? "0" : "") + chairInAFewRows() : "");
            }
        }
        if (next(4) == 0) {
            int place = next(text.length());
            String signs = " ;0123456789abcdefghilnopstuwz";
            text.setCharAt(place, signs.charAt(next(signs.length())));
        }
        if (next(10) == 0) {
            text.setLength(next(text.length() + 1));
        }
        return text.toString();
    }

    private void call(String name, int first, int second) {
        for (Method method : methods) {
            if (method.getName().equals(name)) {
                Object[] arguments = argumentsOf(method, first, second);
                trace = name + java.util.Arrays.toString(arguments);
                Object got = answer(hall, method, arguments);
                Object want = answer(plain, plainMethod(method), arguments);
                if (!got.equals(want)) {
                    System.out.println("a call that differs: " + trace);
                }
                checks.same(want, got);
            }
        }
    }

    private static Object[] argumentsOf(Method method, int first, int second) {
        Class<?>[] types = method.getParameterTypes();
        if (types.length == 0) {
            return new Object[0];
        }
        if (types.length == 2) {
            return new Object[] {first, second};
        }
        return types[0] == char.class ? new Object[] {(char) first} : new Object[] {first};
    }

    private static Method plainMethod(Method method) {
        try {
            return PlainHall.class.getMethod(method.getName(), method.getParameterTypes());
        } catch (NoSuchMethodException exception) {
            throw new IllegalStateException(exception);
        }
    }

    private static Object answer(Object target, Method method, Object[] arguments) {
        try {
            return method.invoke(target, arguments);
        } catch (InvocationTargetException thrown) {
            return thrown.getCause().getClass();
        } catch (IllegalAccessException exception) {
            throw new IllegalStateException(exception);
        }
    }

    private void compareEverything() {
        String[] perGuest = {"feathers", "brim", "isPlaced", "hatChair", "coverSize", "idleMinutes", "hasCoatLeft",
            "coatChair", "guestAtRank"};
        for (int guest = -1; guest <= 8; guest++) {
            for (String name : perGuest) {
                call(name, guest, 0);
            }
        }
        for (int chair = -1; chair <= 40; chair++) {
            for (String name : new String[] {"coatCount", "nextClaimant", "nextClaimantByTime", "covererOf"}) {
                call(name, chair, 0);
            }
            for (int position = -1; position <= 3; position++) {
                call("coatOwner", chair, position);
            }
            call("wouldWin", next(8), chair);
        }
        for (int row = -1; row <= 4; row++) {
            call("longestFreeRun", row, 0);
            call("longestFreeRunByMask", row, 0);
            call("describeRow", row, 0);
            for (int index = -1; index <= 10; index++) {
                call("lineAt", index, 0);
            }
        }
        for (Method method : methods) {
            boolean changes = method.getName().matches("run|undo|save|restore");
            if (method.getParameterCount() == 0 && !changes) {
                call(method.getName(), 0, 0);
            }
        }
    }
}
