import java.lang.reflect.Constructor;
import java.lang.reflect.Field;
import java.lang.reflect.Method;
import java.lang.reflect.Modifier;
import java.util.Arrays;
import java.util.TreeSet;

/** The public face is the document's, and there is nothing beside it. */
public final class FaceTest {
    private static final String[] FACE = {
        "int addGuest(int, int) IllegalArgumentException IllegalStateException",
        "int giveFeather(int) IndexOutOfBoundsException IllegalStateException",
        "int placeHat(int, int) IndexOutOfBoundsException IllegalStateException UnsupportedOperationException",
        "int removeHat(int) IndexOutOfBoundsException NoSuchElementException",
        "int touchHat(int) IndexOutOfBoundsException NoSuchElementException",
        "int guestCount()",
        "int feathers(int) IndexOutOfBoundsException",
        "int brim(int) IndexOutOfBoundsException",
        "boolean isPlaced(int) IndexOutOfBoundsException",
        "int hatChair(int) IndexOutOfBoundsException NoSuchElementException",
        "int coverSize(int) IndexOutOfBoundsException",
        "int idleMinutes(int) IndexOutOfBoundsException NoSuchElementException",
        "int leaveCoat(int, int) IndexOutOfBoundsException IllegalStateException UnsupportedOperationException",
        "int takeCoat(int) IndexOutOfBoundsException NoSuchElementException",
        "boolean hasCoatLeft(int) IndexOutOfBoundsException",
        "int coatChair(int) IndexOutOfBoundsException NoSuchElementException",
        "int coatCount(int) IndexOutOfBoundsException",
        "int coatOwner(int, int) IndexOutOfBoundsException NoSuchElementException",
        "int nextClaimant(int) IndexOutOfBoundsException NoSuchElementException",
        "int nextClaimantByTime(int) IndexOutOfBoundsException NoSuchElementException",
        "boolean contest(int, int) IndexOutOfBoundsException NoSuchElementException IllegalStateException",
        "boolean wouldWin(int, int) IndexOutOfBoundsException",
        "int pass(int) IllegalArgumentException",
        "int sweep(int) IllegalArgumentException",
        "int now()",
        "int idlestGuest() NoSuchElementException",
        "boolean isCovered(int) IndexOutOfBoundsException",
        "int covererOf(int) IndexOutOfBoundsException NoSuchElementException",
        "long coveredMask()",
        "int coveredCount()",
        "int coveredCountByHat()",
        "int longestFreeRun(int) IndexOutOfBoundsException",
        "int longestFreeRunByMask(int) IndexOutOfBoundsException",
        "int guestAtRank(int) NoSuchElementException",
        "int sweptTotal()",
        "int lapsedTotal()",
        "int offersTaken()",
        "int contestsWon()",
        "int append(char) IllegalArgumentException IllegalStateException",
        "int run() IllegalArgumentException IllegalStateException",
        "int errorPosition() NoSuchElementException",
        "int failedCommand() NoSuchElementException",
        "int failedException() NoSuchElementException",
        "int describeRow(int) IndexOutOfBoundsException",
        "char lineAt(int) IndexOutOfBoundsException",
        "double meanCover() ArithmeticException",
        "float coveredShare()",
        "boolean isConsistent()",
        "int undo() IllegalStateException",
        "int save()",
        "int restore() IllegalStateException",
    };

    public static void main(String[] args) {
        Checks checks = new Checks();
        checks.promise(0, "the public face");
        Class<HatReservations> face = HatReservations.class;
        checks.same(Modifier.PUBLIC | Modifier.FINAL, face.getModifiers());
        TreeSet<String> found = new TreeSet<>();
        for (Method method : face.getDeclaredMethods()) {
            if (!Modifier.isPrivate(method.getModifiers()) && !method.isSynthetic()) {
                checks.same(Modifier.PUBLIC, method.getModifiers());
                found.add(describe(method));
            }
        }
        checks.same(new TreeSet<>(Arrays.asList(FACE)), found);
        for (Field field : face.getDeclaredFields()) {
            checks.same(true, Modifier.isPrivate(field.getModifiers()));
        }
        Constructor<?>[] constructors = face.getDeclaredConstructors();
        checks.same(1, constructors.length);
        checks.same(Modifier.PUBLIC, constructors[0].getModifiers());
        checks.same(0, constructors[0].getParameterCount());
        checks.close("FaceTest");
    }

    private static String describe(Method method) {
        StringBuilder text = new StringBuilder();
        text.append(method.getReturnType().getName()).append(' ').append(method.getName()).append('(');
        String gap = "";
        for (Class<?> parameter : method.getParameterTypes()) {
            text.append(gap).append(parameter.getName());
            gap = ", ";
        }
        text.append(')');
        for (Class<?> thrown : method.getExceptionTypes()) {
            text.append(' ').append(thrown.getSimpleName());
        }
        return text.toString();
    }
}
