import java.util.ArrayList;
import java.util.Arrays;
import java.util.List;

/**
 * Each sentence "Throws ..": every argument at the ends that are let and just beyond them, all of
 * them together, on a new object, a used one and a full one.
 */
public final class RefusalsTest {
    // B: the range whose breach throws IndexOutOfBoundsException, A: IllegalArgumentException;
    // the document names them in this order
    private static final String[] FACE = {
        "know B0-2 A0-5 A0-20 A0-20",
        "few B0-2 A0-20 A0-20",
        "surplus B0-2 A0-20",
        "place B0-2 B0-1",
        "learn B0-2 A0-5 A0-20 A0-20",
        "relearn B0-2 A0-5 A0-20 A0-20",
        "forget B0-2 A0-5 A0-20 A0-20",
        "forgetIf B0-2 A0-5 A0-20 A0-20 any",
        "forgetAll B0-2 A0-3 any",
        "clear B0-2",
        "copy B0-2 B0-2",
        "pour B0-2 B0-2",
        "isKept B0-2 A0-5 A0-20 A0-20 A0-2",
        "worthOr B0-2 A0-5 A0-20 A0-20 any",
        "confirm B0-2 A0-5 A0-20 A0-20 any",
        "about B0-2 A0-3",
        "has B0-2 any",
        "count B0-2 A0-3 any",
        "isSame B0-2 B0-2",
        "walk A0-7 A0-20 A0-20",
        "product A0-7 A0-20 A0-20",
        "rule B0-2 A0-20",
        "forgetRule B0-2 A0-20",
        "ledger B0-2 A0-1",
        "ruleWorth B0-2 A0-20 A0-1",
        "addPart B0-1 A1-20 A1-20",
        "takePart B0-1 A1-20",
        "layFirst B0-1 A0-20",
        "next B0-1",
        "turn B0-1",
        "toUnlike B0-1",
        "toOdd B0-1",
        "copyDesk B0-1",
        "times B0-1 A1-20",
        "way B0-1 A0-2",
        "wayText B0-1",
        "isOf B0-1 A0-7 A0-20",
        "isSameWay",
        "tally A0-5",
        "knock",
        "isSound B0-2",
        "digest",
    };
    private static final int[] ANY = {Integer.MIN_VALUE, -1, 0, 1, Integer.MAX_VALUE};

    public static void main(String[] args) {
        for (String line : FACE) {
            for (int state = 0; state <= 2; state++) {
                everyCall(line.split(" "), state);
            }
        }
        Checks.finish("RefusalsTest");
    }

    private static void everyCall(String[] line, int state) {
        Twins twins = inState(line[0], state);
        for (Object[] values : together(line)) {
            if (twins.callsLeft() < 3) {
                twins = inState(line[0], state);
            }
            call(twins, line, values);
        }
    }

    private static Twins inState(String name, int state) {
        Twins twins = new Twins(name + " in state " + state);
        if (state == 1) {
            use(twins);
        } else if (state == 2) {
            twins.fillMemory(0);
            twins.call("copy", 0, 2);
            twins.call("rule", 0, 20);
            twins.call("rule", 2, 20);
            twins.call("layFirst", 0, 20);
            twins.call("addPart", 1, 1, 20);
        }
        return twins;
    }

    private static void use(Twins twins) {
        for (int kind = 0; kind <= 5; kind++) {
            twins.call("know", kind % 3, kind, 7, 3);
            twins.call("learn", 2, kind, 20, 1);
            twins.call("learn", 0, kind, 1, 20);
        }
        twins.call("rule", 1, 6);
        twins.call("addPart", 0, 3, 2);
        twins.call("addPart", 1, 4, 1);
        twins.call("addPart", 1, 7, 1);
        twins.call("takePart", 1, 9);
        twins.call("knock");
    }

    private static void call(Twins twins, String[] line, Object[] values) {
        Class<?> due = refusal(line, values);
        Object before = due == null ? null : twins.call("digest");
        Object got = twins.call(line[0], values);
        Object behind = twins.call("digest");
        String what = line[0] + Arrays.toString(values);
        if (due == null) {
            Checks.due(what + " is let", got instanceof Class, false);
        } else {
            Checks.due(what, got, due);
            Checks.due(what + " changes nothing", behind, before);
        }
    }

    private static Class<?> refusal(String[] line, Object[] values) {
        Class<?> due = null;
        for (int at = 0; at < values.length; at++) {
            String range = line[at + 1];
            if (!range.equals("any")) {
                int value = (int) values[at];
                boolean out = value < end(range, 0) || value > end(range, 1);
                if (out && range.charAt(0) == 'B') {
                    return IndexOutOfBoundsException.class;
                }
                due = out ? IllegalArgumentException.class : due;
            }
        }
        return due;
    }

    private static int end(String range, int which) {
        return Integer.parseInt(range.substring(1).split("-")[which]);
    }

    /** All arguments at their ends and one beyond, each with each; then each alone far out. */
    private static List<Object[]> together(String[] line) {
        List<Object[]> all = new ArrayList<>();
        all.add(new Object[line.length - 1]);
        for (int at = 0; at < line.length - 1; at++) {
            List<Object[]> more = new ArrayList<>();
            for (Object[] values : all) {
                for (int value : edges(line[at + 1])) {
                    more.add(with(values, at, value));
                }
            }
            all = more;
        }
        for (int at = 0; at < line.length - 1; at++) {
            for (int far : new int[] {Integer.MIN_VALUE, Integer.MAX_VALUE, 1 << 16, -1 << 30}) {
                all.add(with(least(line), at, far));
            }
        }
        return all;
    }

    private static int[] edges(String range) {
        if (range.equals("any")) {
            return ANY;
        }
        int least = end(range, 0);
        int most = end(range, 1);
        return new int[] {least - 1, least, most, most + 1};
    }

    private static Object[] least(String[] line) {
        Object[] values = new Object[line.length - 1];
        for (int at = 0; at < values.length; at++) {
            values[at] = line[at + 1].equals("any") ? 0 : end(line[at + 1], 0);
        }
        return values;
    }

    private static Object[] with(Object[] values, int at, int value) {
        Object[] changed = values.clone();
        changed[at] = value;
        return changed;
    }
}
