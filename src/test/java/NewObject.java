import java.lang.reflect.Constructor;
import java.lang.reflect.Method;
import java.lang.reflect.Modifier;
import java.util.Arrays;
import java.util.TreeSet;

/** Promise 1, and the public face. */
public final class NewObject {
    public static void main(String[] args) {
        nothingIsLoaded();
        face();
        Check.end();
    }

    private static void nothingIsLoaded() {
        TypedDescent x = new TypedDescent();
        for (int round = 0; round < 2; round++) {
            Check.due("place", x.place(), -1);
            Check.due("kind(0)", x.kind(0), -1);
            Check.due("code(8192)", x.code(8192), -1);
            Check.due("label(0)", x.label(0), -1);
            Check.due("value", x.value(), 0);
            for (int what = 0; what <= 6; what++) {
                Check.due("count(" + what + ")", x.count(what), 0);
            }
            Check.due("count(7)", x.count(7), -1);
            Check.due("count(-1)", x.count(-1), -1);
            Check.due("register(1)", x.register(1), 0);
            Check.due("heap(0)", x.heap(0), 0);
            Check.due("run", x.run(10, 10), -1);
        }
    }

    private static void face() {
        TreeSet<String> names = new TreeSet<>();
        for (Method method : TypedDescent.class.getDeclaredMethods()) {
            if (!Modifier.isPrivate(method.getModifiers())) {
                names.add(method.getReturnType() + " " + method.getName()
                    + Arrays.toString(method.getParameterTypes()));
            }
        }
        Check.due("methods", names.toString(), "[boolean feed[int, int, int, int, int], "
            + "int blocks[int], int code[int], int count[int], int heap[int], int kind[int], "
            + "int label[int], int place[], int program[int], int register[int], int run[int, int], "
            + "int value[]]");
        Constructor<?>[] made = TypedDescent.class.getDeclaredConstructors();
        Check.due("constructors", made.length, 1);
        Check.due("the constructor's parameters", made[0].getParameterCount(), 0);
        Check.due("final", Modifier.isFinal(TypedDescent.class.getModifiers()) ? 1 : 0, 1);
    }
}
