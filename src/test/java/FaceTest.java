import java.lang.reflect.Constructor;
import java.lang.reflect.Field;
import java.lang.reflect.Method;
import java.lang.reflect.Modifier;
import java.util.Set;
import java.util.TreeSet;

/** The class shows the document's face, and nothing beside it but private members. */
public final class FaceTest {
    private static final String[] METHODS = {
        "public int object(int)",
        "public int put(int,byte)",
        "public int change(int)",
        "public int pack(int)",
        "public int size(int)",
        "public byte at(int,int) throws java.lang.ArrayIndexOutOfBoundsException",
        "public int in(int)",
        "public int raw(int,int)",
        "public int add(int,byte)",
        "public byte octet(int,int) throws java.lang.ArrayIndexOutOfBoundsException",
        "public int extend(int,int)",
        "public int row(int,int,int)",
        "public int read(int)",
        "public int told(int,int)",
        "public int pair(int,int,int)",
        "public int find(int,int)",
        "public int count(int)",
    };

    public static void main(String[] args) {
        Check check = new Check("FaceTest");
        check.due("NONE", ObjectStreams.NONE, -1);
        check.due("BAD", ObjectStreams.BAD, -2);
        check.due("STATE", ObjectStreams.STATE, -3);
        check.due("FULL", ObjectStreams.FULL, -4);
        check.due("the class is public and final",
            ObjectStreams.class.getModifiers() & (Modifier.PUBLIC | Modifier.FINAL),
            Modifier.PUBLIC | Modifier.FINAL);
        methods(check);
        fields(check);
        Constructor<?>[] constructors = ObjectStreams.class.getDeclaredConstructors();
        check.due("constructors", constructors.length, 1);
        check.due("a constructor's modifiers", constructors[0].getModifiers(), Modifier.PUBLIC);
        check.due("a constructor's parameters", constructors[0].getParameterCount(), 0);
        check.end();
    }

    private static void methods(Check check) {
        Set<String> due = new TreeSet<>();
        Set<String> names = new TreeSet<>();
        for (String method : METHODS) {
            due.add(method);
            names.add(method.split("[ (]")[2]);
        }
        Set<String> seen = new TreeSet<>();
        for (Method method : ObjectStreams.class.getDeclaredMethods()) {
            if (Modifier.isPrivate(method.getModifiers())) {
                check.due("a private method named " + method.getName(), names.contains(method.getName()) ? 1 : 0, 0);
            } else {
                seen.add(method.toGenericString().replace("ObjectStreams.", ""));
            }
        }
        check.due("methods " + seen + " for " + due, seen.equals(due) ? 1 : 0, 1);
    }

    private static void fields(Check check) {
        Set<String> seen = new TreeSet<>();
        for (Field field : ObjectStreams.class.getDeclaredFields()) {
            int modifiers = field.getModifiers();
            if (!Modifier.isPrivate(modifiers)) {
                seen.add(field.getName());
            }
            if (Modifier.isStatic(modifiers)) {
                check.due("static field " + field.getName() + " is final", Modifier.isFinal(modifiers) ? 1 : 0, 1);
            }
        }
        check.due("fields that are not private: " + seen,
            seen.equals(new TreeSet<>(Set.of("NONE", "BAD", "STATE", "FULL"))) ? 1 : 0, 1);
    }
}
