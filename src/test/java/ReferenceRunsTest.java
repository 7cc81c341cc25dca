import java.util.Set;
import java.util.TreeSet;

/** Long runs of calls, ordinary and wild ones, against the document in another form. */
public final class ReferenceRunsTest {
    private static final int RUNS = 400;
    private static final int[] WILD = {
        -1, -2, -9, 21, 22, 8, 6, 3, 2, 100, 32, 1024, -1024, Integer.MIN_VALUE,
        Integer.MAX_VALUE, Integer.MIN_VALUE + 1, Integer.MAX_VALUE - 1, 1 << 30, 1 << 16
    };

    private static long seed;

    public static void main(String[] args) {
        // reflection tells methods in no order of its own; the runs have to be the same each time
        Set<String> names = new TreeSet<>();
        for (java.lang.reflect.Method method : Sumlarder.class.getDeclaredMethods()) {
            if (java.lang.reflect.Modifier.isPublic(method.getModifiers())) {
                names.add(method.getName());
            }
        }
        String[] face = names.toArray(new String[0]);
        for (int run = 0; run < RUNS; run++) {
            seed = run * 7919L + 1;
            run(face, run);
        }
        Checks.finish("ReferenceRunsTest");
    }

    private static int below(int end) {
        seed = seed * 6364136223846793005L + 1442695040888963407L;
        return (int) ((seed >>> 33) % end);
    }

    private static void run(String[] face, int run) {
        Twins twins = new Twins("run " + run);
        // some runs are tame, so that long chains of acts come about
        int wildness = run % 4 == 0 ? 12 : 150;
        boolean fewKinds = run % 3 == 0;
        while (twins.callsLeft() > 1) {
            String method = face[below(face.length)];
            if (!method.equals("clear") || below(4) == 0) {
                twins.call(method, values(ends(method), wildness, fewKinds));
            }
        }
        twins.call("digest");
    }

    private static Object[] values(int[] ends, int wildness, boolean fewKinds) {
        Object[] values = new Object[ends.length];
        for (int at = 0; at < values.length; at++) {
            if (below(wildness) == 0) {
                values[at] = WILD[below(WILD.length)];
            } else if (ends[at] == 6 && fewKinds) {
                values[at] = below(2) * 3;
            } else {
                values[at] = below(ends[at]);
            }
        }
        return values;
    }

    /** Below which bound an ordinary argument lies, place by place. */
    private static int[] ends(String name) {
        switch (name) {
            case "know": case "learn": case "relearn": case "forget":
                return new int[] {3, 6, 21, 21};
            case "forgetIf": case "confirm": case "worthOr":
                return new int[] {3, 6, 21, 21, 8};
            case "isKept":
                return new int[] {3, 6, 21, 21, 3};
            case "few":
                return new int[] {3, 21, 21};
            case "surplus":
                return new int[] {3, 21};
            case "place":
                return new int[] {3, 2};
            case "forgetAll": case "count":
                return new int[] {3, 4, 21};
            case "about":
                return new int[] {3, 4};
            case "has":
                return new int[] {3, 40};
            case "walk": case "product":
                return new int[] {8, 21, 21};
            case "rule": case "forgetRule":
                return new int[] {3, 21};
            case "ledger":
                return new int[] {3, 2};
            case "ruleWorth":
                return new int[] {3, 21, 2};
            case "addPart":
                return new int[] {2, 12, 4};
            case "takePart": case "times":
                return new int[] {2, 12};
            case "layFirst":
                return new int[] {2, 21};
            case "next": case "turn": case "toUnlike": case "toOdd": case "copyDesk":
            case "wayText":
                return new int[] {2};
            case "way":
                return new int[] {2, 3};
            case "isOf":
                return new int[] {2, 8, 21};
            case "tally":
                return new int[] {6};
            case "copy": case "pour": case "isSame":
                return new int[] {3, 3};
            case "clear": case "isSound":
                return new int[] {3};
            default:
                return new int[] {};
        }
    }
}
