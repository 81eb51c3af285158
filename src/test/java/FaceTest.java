import java.lang.reflect.Constructor;
import java.lang.reflect.Field;
import java.lang.reflect.Method;
import java.lang.reflect.Modifier;
import java.util.ArrayList;
import java.util.List;
import java.util.TreeSet;

/** The class has the face of the document, and nothing beside it that can be seen from outside. */
public final class FaceTest {
    private static final String[] FACE = {
        "int setRank(int,int) IAS-", "int setRule(int,int) IAS-", "void setOrder(int,int,int) AS",
        "int beginBatch() S", "int key(int,int) IA", "int field(int,int) IA", "int load(int) IS",
        "boolean protect(int,int,boolean) IS", "int hold(int) IS", "int merge(int,int) IAS-",
        "int undo(int,boolean) IS", "int batches() ", "int loads() ", "int records() ",
        "boolean isUndone(int) I", "boolean isThere(int) ", "int hit(int) I", "int keyOf(int,int) I",
        "int fieldOf(int,int) I", "int sourceOf(int,int) I", "int holdings(int) I", "int digest() ",
        "int digestAnew() "
    };

    public static void main(String[] args) {
        TreeSet<String> want = new TreeSet<>();
        TreeSet<String> names = new TreeSet<>();
        for (String line : FACE) {
            want.add(line.replace("-", ""));
            names.add(line.substring(line.indexOf(' ') + 1, line.indexOf('(')));
        }
        TreeSet<String> got = new TreeSet<>();
        List<String> faults = new ArrayList<>();
        Class<?> face = CatalogueLoader.class;
        for (Method method : face.getDeclaredMethods()) {
            if (Modifier.isPublic(method.getModifiers())) {
                got.add(line(method));
            } else if (!Modifier.isPrivate(method.getModifiers()) || names.contains(method.getName())) {
                faults.add("method " + method);
            }
        }
        if (!want.equals(got)) {
            faults.add("the face is " + got + ", due is " + want);
        }
        for (Field field : face.getDeclaredFields()) {
            if (!Modifier.isPrivate(field.getModifiers())) {
                faults.add("field " + field);
            }
        }
        for (Constructor<?> constructor : face.getDeclaredConstructors()) {
            if (!Modifier.isPublic(constructor.getModifiers()) || constructor.getParameterCount() != 0) {
                faults.add("constructor " + constructor);
            }
        }
        for (Class<?> inside : face.getDeclaredClasses()) {
            int modifiers = inside.getModifiers();
            if (!Modifier.isStatic(modifiers) || Modifier.isPublic(modifiers) || Modifier.isProtected(modifiers)) {
                faults.add("class " + inside);
            }
        }
        if (!Modifier.isPublic(face.getModifiers()) || !Modifier.isFinal(face.getModifiers())) {
            faults.add("the class is not public and final");
        }
        for (String fault : faults) {
            System.out.println(fault);
        }
        System.exit(faults.isEmpty() ? 0 : 1);
    }

    private static String line(Method method) {
        StringBuilder line = new StringBuilder();
        line.append(method.getReturnType().getSimpleName()).append(' ').append(method.getName()).append('(');
        for (int i = 0; i < method.getParameterCount(); i++) {
            line.append(i == 0 ? "" : ",").append(method.getParameterTypes()[i].getSimpleName());
        }
        line.append(") ");
        for (Class<?> thrown : method.getExceptionTypes()) {
            line.append(thrown == IndexOutOfBoundsException.class ? 'I'
                    : thrown == IllegalArgumentException.class ? 'A'
                    : thrown == IllegalStateException.class ? 'S' : '?');
        }
        return line.toString();
    }
}
