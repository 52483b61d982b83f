import java.io.IOException;
import java.lang.reflect.Constructor;
import java.lang.reflect.Field;
import java.lang.reflect.Method;
import java.lang.reflect.Modifier;
import java.util.TreeSet;

/** The public face is the document's, and there is nothing beside it. */
public final class FaceTest {
    public static void main(String[] args) throws IOException {
        Checks checks = new Checks();
        checks.promise(0, "the public face");
        Class<HatReservations> face = HatReservations.class;
        checks.same(Modifier.PUBLIC | Modifier.FINAL, face.getModifiers());
        TreeSet<String> found = new TreeSet<>();
        for (Method method : face.getDeclaredMethods()) {
            if (!Modifier.isPrivate(method.getModifiers()) && !method.isSynthetic()) {
                checks.same(Modifier.PUBLIC, method.getModifiers());
                found.add(describe(method));
            }
        }
        checks.same(51, found.size());
        checks.same(new TreeSet<>(Document.face()), found);
        for (Field field : face.getDeclaredFields()) {
            checks.same(true, Modifier.isPrivate(field.getModifiers()));
        }
        Constructor<?>[] constructors = face.getDeclaredConstructors();
        checks.same(1, constructors.length);
        checks.same(Modifier.PUBLIC, constructors[0].getModifiers());
        checks.same(0, constructors[0].getParameterCount());
        checks.close("FaceTest");
    }

    private static String describe(Method method) {
        StringBuilder text = new StringBuilder();
        text.append(method.getReturnType().getName()).append(' ').append(method.getName()).append('(');
        String gap = "";
        for (Class<?> parameter : method.getParameterTypes()) {
            text.append(gap).append(parameter.getName());
            gap = ", ";
        }
        text.append(')');
        for (Class<?> thrown : method.getExceptionTypes()) {
            text.append(' ').append(thrown.getSimpleName());
        }
        return text.toString();
    }
}
