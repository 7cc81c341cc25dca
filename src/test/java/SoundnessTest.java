import java.lang.reflect.Array;
import java.lang.reflect.Field;

/**
 * Promise 42 where the answer is false. No call of the face leads there, so each test puts one
 * fault into the object's own fields; it knows how a memory is held, and has to change with that.
 */
public final class SoundnessTest {
    public static void main(String[] args) throws ReflectiveOperationException {
        wrongWorths();
        whatRests();
        howMany();
        wanted();
        Checks.finish("SoundnessTest");
    }

    private static Field field(Object owner, String name) throws ReflectiveOperationException {
        Field field = owner.getClass().getDeclaredField(name);
        field.setAccessible(true);
        return field;
    }

    private static Object memory(Sumlarder s, int memory) throws ReflectiveOperationException {
        return Array.get(field(s, "memories").get(s), memory);
    }

    private static int[] worths(Sumlarder s, int memory) throws ReflectiveOperationException {
        Object held = memory(s, memory);
        return (int[]) field(held, "worths").get(held);
    }

    private static int slot(int kind, int number, int measure) {
        return (kind * 21 + number) * 21 + measure;
    }

    private static void add(Object owner, String name, int more)
            throws ReflectiveOperationException {
        Field field = field(owner, name);
        field.setInt(owner, field.getInt(owner) + more);
    }

    private static void wrongWorths() throws ReflectiveOperationException {
        Checks.sentence("Promise 42", "what the memory keeps has the WORTH that the SERIES tells");
        for (int kind = 0; kind <= 5; kind++) {
            for (int[] c : new int[][] {{1, 1}, {1, 20}, {20, 1}, {20, 20}, {7, 3}}) {
                for (int off : new int[] {-1, 1}) {
                    Sumlarder s = new Sumlarder();
                    s.learn(1, kind, c[0], c[1]);
                    int[] worths = worths(s, 1);
                    int slot = slot(kind, c[0], c[1]);
                    if (worths[slot] + off >= 0) {
                        worths[slot] += off;
                        Checks.asks("a wrong worth", s, () -> s.isSound(1), false);
                        Checks.asks("another memory", s, () -> s.isSound(0), true);
                        worths[slot] -= off;
                    }
                    Checks.asks("the right one", s, () -> s.isSound(1), true);
                }
            }
        }
    }

    private static void whatRests() throws ReflectiveOperationException {
        Checks.sentence("Promise 42", "none that RESTS is kept");
        for (int kind = 0; kind <= 5; kind++) {
            for (int[] c : new int[][] {{0, 0}, {0, 20}, {20, 0}, {1, 0}, {0, 1}}) {
                Sumlarder s = new Sumlarder();
                // with the worth of the series, and counted too
                worths(s, 2)[slot(kind, c[0], c[1])] = s.product(kind, c[0], c[1]);
                add(memory(s, 2), "size", 1);
                Checks.asks("rests", s, () -> s.isSound(2), false);
                Checks.asks("another memory", s, () -> s.isSound(0), true);
            }
        }
    }

    private static void howMany() throws ReflectiveOperationException {
        Checks.sentence("Promise 42", "as many are kept as are told");
        for (int off : new int[] {-1, 1}) {
            Sumlarder s = new Sumlarder();
            s.know(0, 0, 20, 20);
            add(memory(s, 0), "size", off);
            Checks.asks("told " + off, s, () -> s.isSound(0), false);
            Checks.asks("another memory", s, () -> s.isSound(1), true);
            add(memory(s, 0), "size", -off);
            Checks.asks("told rightly", s, () -> s.isSound(0), true);
        }
    }

    private static void wanted() throws ReflectiveOperationException {
        Checks.sentence("Promise 42", "WANTED is MADE and FOUND together");
        for (String name : new String[] {"wanted", "made", "found"}) {
            for (int off : new int[] {-1, 1}) {
                Sumlarder s = new Sumlarder();
                s.know(0, 0, 20, 20);
                Object counts = field(s, "counts").get(s);
                add(counts, name, off);
                for (int memory = 0; memory <= 2; memory++) {
                    int m = memory;
                    Checks.asks(name + " " + off, s, () -> s.isSound(m), false);
                }
                add(counts, name, -off);
                Checks.asks("counted rightly", s, () -> s.isSound(0), true);
            }
        }
    }
}
