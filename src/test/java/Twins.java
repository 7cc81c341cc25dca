import java.lang.reflect.InvocationTargetException;
import java.lang.reflect.Method;
import java.lang.reflect.Modifier;
import java.util.Arrays;
import java.util.HashMap;
import java.util.Map;

/** An object and the document in its other form, that get the same calls. */
final class Twins {
    /** No object is asked beyond as many calls: what later ones answer is free. */
    static final int MOST_CALLS = 512;

    private static final Map<String, Method> FACE = methods(Sumlarder.class);
    private static final Map<String, Method> MODEL = methods(Reference.class);

    private final String name;
    private final Sumlarder object = new Sumlarder();
    private final Reference model = new Reference();
    private int calls = 0;

    Twins(String name) {
        this.name = name;
    }

    private static Map<String, Method> methods(Class<?> one) {
        Map<String, Method> all = new HashMap<>();
        for (Method method : one.getDeclaredMethods()) {
            // a name stands for one method, but for helpers that are hidden
            if (!Modifier.isPrivate(method.getModifiers())) {
                all.put(method.getName(), method);
            }
        }
        return all;
    }

    int callsLeft() {
        return MOST_CALLS - calls;
    }

    /** Both answer the same; an exception is told by its class. */
    Object call(String method, Object... values) {
        calls++;
        if (calls > MOST_CALLS) {
            throw new IllegalStateException("the test asks more than the document promises");
        }
        Object got = answer(FACE.get(method), object, values);
        Object due = answer(MODEL.get(method), model, values);
        Checks.due(name + " call " + calls + ": " + method + Arrays.toString(values), got, due);
        return got;
    }

    private static Object answer(Method method, Object target, Object[] values) {
        try {
            return method.invoke(target, values);
        } catch (InvocationTargetException e) {
            return e.getCause().getClass();
        } catch (IllegalAccessException e) {
            throw new IllegalStateException(e);
        }
    }

    /** A memory comes to keep all 2400 cases there are; takes 310 calls. */
    void fillMemory(int memory) {
        for (int number = 1; number <= 20; number++) {
            for (int kind : new int[] {0, 2, 3, 4}) {
                call("know", memory, kind, number, 20);
            }
            call("few", memory, number, 20);
            call("surplus", memory, number);
            // of kind 5 no case leans on one with a measure above its number
            for (int measure = number + 1; measure <= 20; measure++) {
                call("know", memory, 5, number, measure);
            }
        }
    }
}
