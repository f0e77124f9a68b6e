import java.lang.reflect.Constructor;
import java.lang.reflect.Field;
import java.lang.reflect.Method;
import java.lang.reflect.Modifier;
import java.util.ArrayList;
import java.util.Collections;
import java.util.List;

/** The face of the class is the document's one, throws clauses and all, and nothing else is to be seen. */
public final class FaceTest {
    private static final String[] FACE = {
        "int begin(int, int) IllegalArgumentException",
        "int put(int, int) IndexOutOfBoundsException IllegalStateException",
        "int aim(int, int) IndexOutOfBoundsException",
        "boolean allow(int, int, boolean) IndexOutOfBoundsException IllegalArgumentException",
        "int setColour(int, int) IndexOutOfBoundsException IllegalArgumentException",
        "boolean setRule(boolean)",
        "int move(int, int) IndexOutOfBoundsException IllegalStateException",
        "int takeBack() IllegalStateException",
        "int layStart()",
        "int pegs()",
        "int disks()",
        "int moves()",
        "int pegOf(int) IndexOutOfBoundsException",
        "int top(int) IndexOutOfBoundsException",
        "int arrangement()",
        "int goal()",
        "boolean isLawful()",
        "boolean canMove(int, int) IndexOutOfBoundsException",
        "int way()",
        "int wayByDisks() IllegalStateException",
        "int lost() IllegalStateException",
        "int next()",
        "int reachable()",
        "int splits(int, int) IllegalArgumentException",
    };

    public static void main(String[] args) {
        Check check = new Check("FaceTest");
        Class<?> bench = TowerBench.class;
        check.due("public and final", bench.getModifiers(), Modifier.PUBLIC | Modifier.FINAL);
        List<String> due = new ArrayList<>(List.of(FACE));
        Collections.sort(due);
        check.dueText("the face", String.join("\n", faceOf(bench, check)), String.join("\n", due));
        Constructor<?>[] constructors = bench.getDeclaredConstructors();
        check.due("constructors", constructors.length, 1);
        for (Constructor<?> c : constructors) {
            check.due("the constructor's modifiers", c.getModifiers(), Modifier.PUBLIC);
            check.due("the constructor's parameters", c.getParameterCount(), 0);
        }
        for (Field f : bench.getDeclaredFields()) {
            check.due("private: " + f.getName(), Modifier.isPrivate(f.getModifiers()), true);
            boolean isStatic = Modifier.isStatic(f.getModifiers());
            check.due("final if static: " + f.getName(),
                    !isStatic || Modifier.isFinal(f.getModifiers()), true);
        }
        check.end();
    }

    private static List<String> faceOf(Class<?> bench, Check check) {
        List<String> face = new ArrayList<>();
        List<String> hidden = new ArrayList<>();
        List<String> names = new ArrayList<>();
        for (Method m : bench.getDeclaredMethods()) {
            if (Modifier.isPrivate(m.getModifiers())) {
                hidden.add(m.getName());
            } else {
                face.add(textOf(m));
                names.add(m.getName());
                check.due("public alone: " + m.getName(), m.getModifiers(), Modifier.PUBLIC);
            }
        }
        for (String name : hidden) {
            check.due("a public name of the private " + name, names.contains(name), false);
        }
        Collections.sort(face);
        return face;
    }

    private static String textOf(Method m) {
        List<String> parameters = new ArrayList<>();
        for (Class<?> p : m.getParameterTypes()) {
            parameters.add(p.getName());
        }
        StringBuilder text = new StringBuilder();
        text.append(m.getReturnType().getName()).append(' ').append(m.getName());
        text.append('(').append(String.join(", ", parameters)).append(')');
        for (Class<?> e : m.getExceptionTypes()) {
            text.append(' ').append(e.getSimpleName());
        }
        return text.toString();
    }
}
