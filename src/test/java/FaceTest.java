import java.lang.reflect.Constructor;
import java.lang.reflect.Field;
import java.lang.reflect.Method;
import java.lang.reflect.Modifier;
import java.util.Arrays;
import java.util.TreeSet;

/** The public face and the constants, and that there is no other member outside can see. */
public final class FaceTest {
    private static final String[] METHODS = {
        "int align(int,int)", "int calloc(int)", "int count(int)", "int end()",
        "boolean free(int)", "int malloc(int)", "int read(int,int)", "int realloc(int,int)",
        "int size(int)", "int state(int)", "int total(int)", "int trim(int)", "int usable(int)",
        "boolean write(int,int,int)"
    };

    public static void main(String[] args) {
        constants();
        members();
        Check.finish();
    }

    private static void constants() {
        Check.same("NONE", VictimHeap.NONE, -1);
        Check.same("USED", VictimHeap.USED, 0);
        Check.same("BIN", VictimHeap.BIN, 1);
        Check.same("TREE", VictimHeap.TREE, 2);
        Check.same("VICTIM", VictimHeap.VICTIM, 3);
        Check.same("TOP", VictimHeap.TOP, 4);
    }

    private static void members() {
        Check.same("the class is public and final", VictimHeap.class.getModifiers(),
            Modifier.PUBLIC | Modifier.FINAL);

        TreeSet<String> methods = new TreeSet<>();
        TreeSet<String> hidden = new TreeSet<>();
        for (Method method : VictimHeap.class.getDeclaredMethods()) {
            if (Modifier.isPrivate(method.getModifiers())) {
                hidden.add(method.getName());
            } else {
                methods.add(described(method));
            }
        }
        Check.same("methods", methods.toString(), new TreeSet<>(Arrays.asList(METHODS)).toString());
        for (Method method : VictimHeap.class.getMethods()) {
            Check.same("a private method named " + method.getName(),
                hidden.contains(method.getName()), false);
        }

        TreeSet<String> fields = new TreeSet<>();
        for (Field field : VictimHeap.class.getDeclaredFields()) {
            if (!Modifier.isPrivate(field.getModifiers())) {
                fields.add(Modifier.toString(field.getModifiers()) + " " + field.getName());
            }
        }
        Check.same("fields", fields.toString(), "[public static final BIN, public static final NONE,"
            + " public static final TOP, public static final TREE, public static final USED,"
            + " public static final VICTIM]");

        Constructor<?>[] constructors = VictimHeap.class.getDeclaredConstructors();
        Check.same("constructors", constructors.length, 1);
        Check.same("constructor", constructors[0].toString(), "public VictimHeap(int)");
    }

    private static String described(Method method) {
        StringBuilder text = new StringBuilder();
        if (!Modifier.isPublic(method.getModifiers()) || Modifier.isStatic(method.getModifiers())) {
            text.append(Modifier.toString(method.getModifiers())).append(' ');
        }
        text.append(method.getReturnType().getName()).append(' ').append(method.getName()).append('(');
        Class<?>[] types = method.getParameterTypes();
        for (int i = 0; i < types.length; i++) {
            text.append(i == 0 ? "" : ",").append(types[i].getName());
        }
        return text.append(')').toString();
    }
}
