import java.lang.reflect.Constructor;
import java.lang.reflect.Field;
import java.lang.reflect.Method;
import java.lang.reflect.Modifier;
import java.util.ArrayList;
import java.util.Arrays;
import java.util.List;

/** The class has the document's face, and nothing else that can be seen from outside. */
public final class FaceTest {
    private static final String[] METHODS = {"int log 3", "int feed 6", "int text 0", "int fault 4", "int heal 1", "int told 2",
        "int taken 2", "int turn 1", "int rule 2", "int cell 4", "int board 3", "int graded 5", "long worth 2", "int opening 2",
        "long best 1", "int bestTurn 0", "int saw 0", "int stack 2", "int order 4", "int met 1", "int serve 0", "long without 1",
        "long drawn 2", "int chance 4", "int tells 2", "int image 0", "int back 0", "int count 1", "int sheet 3", "int put 3",
        "int copy 5"};

    public static void main(String[] args) throws ReflectiveOperationException {
        Due d = new Due();
        d.part("face");
        Class<?> face = LogSawyer.class;
        d.due("public and final", face.getModifiers(), Modifier.PUBLIC | Modifier.FINAL);
        List<String> methods = new ArrayList<>();
        List<String> hidden = new ArrayList<>();
        for (Method m : face.getDeclaredMethods()) {
            if (Modifier.isPrivate(m.getModifiers())) {
                hidden.add(m.getName());
            } else {
                d.due(m + " is public alone", m.getModifiers(), Modifier.PUBLIC);
                methods.add(m.getReturnType() + " " + m.getName() + " " + m.getParameterCount());
                for (Class<?> type : m.getParameterTypes()) {
                    d.due(m + ": ints but for put's v", type == int.class || m.getName().equals("put") && type == long.class ? 1 : 0, 1);
                }
            }
        }
        for (String m : METHODS) {
            d.due(m, methods.remove(m) ? 1 : 0, 1);
            d.due("a private method bears its name: " + m, hidden.contains(m.split(" ")[1]) ? 1 : 0, 0);
        }
        d.due("methods beyond the face " + methods, methods.size(), 0);
        d.due("put", LogSawyer.class.getMethod("put", int.class, int.class, long.class).getParameterCount(), 3);
        fields(d, face);
        Constructor<?>[] constructors = face.getDeclaredConstructors();
        d.due("constructors", constructors.length, 1);
        d.due("the public one", constructors[0].getModifiers(), Modifier.PUBLIC);
        d.due("without parameters", constructors[0].getParameterCount(), 0);
        for (Class<?> inside : face.getDeclaredClasses()) {
            d.due(inside + " is static", Modifier.isStatic(inside.getModifiers()) ? 1 : 0, 1);
            d.due(inside + " is hidden", Modifier.isPublic(inside.getModifiers()) || Modifier.isProtected(inside.getModifiers()) ? 1 : 0, 0);
        }
        d.end("FaceTest");
    }

    private static void fields(Due d, Class<?> face) {
        List<String> seen = new ArrayList<>();
        for (Field f : face.getDeclaredFields()) {
            if (!Modifier.isPrivate(f.getModifiers())) {
                d.due(f + " is a constant", f.getModifiers(), Modifier.PUBLIC | Modifier.STATIC | Modifier.FINAL);
                seen.add(f.getType() + " " + f.getName());
            } else if (Modifier.isStatic(f.getModifiers())) {
                d.due(f + " is final", Modifier.isFinal(f.getModifiers()) ? 1 : 0, 1);
            }
        }
        List<String> want = new ArrayList<>(Arrays.asList("int NONE", "int BAD", "int STATE", "int FULL", "long NO"));
        d.due("the constants " + seen, seen.size(), want.size());
        want.removeAll(seen);
        d.due("constants that miss " + want, want.size(), 0);
    }
}
