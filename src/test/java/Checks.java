import java.util.Objects;

/** What the tests share: answers that are due, and calls that must be refused. */
final class Checks {
    interface Call {
        Object run();
    }

    private static int right = 0;
    private static int wrong = 0;

    private Checks() {
    }

    static void due(String what, Object got, Object want) {
        if (Objects.equals(got, want)) {
            right++;
        } else {
            wrong++;
            System.out.println(what + " answered " + got + ", due is " + want);
        }
    }

    /** The call throws just IndexOutOfBoundsException and changes nothing. */
    static void outOfBounds(String what, Sumlarder object, Call call) {
        refused(what, object, call, IndexOutOfBoundsException.class);
    }

    /** The call throws just IllegalArgumentException and changes nothing. */
    static void illegal(String what, Sumlarder object, Call call) {
        refused(what, object, call, IllegalArgumentException.class);
    }

    private static void refused(String what, Sumlarder object, Call call, Class<?> due) {
        long before = object.digest();
        Object got;
        try {
            got = call.run();
        } catch (RuntimeException e) {
            got = e.getClass();
        }
        due(what, got, due);
        due(what + ", digest behind it", object.digest(), before);
    }

    /** The call is an act: it answers so, and the count of acts alone goes up with it. */
    static void act(String what, Sumlarder object, Call call, Object want) {
        int acts = object.tally(0);
        int undone = object.tally(4);
        due(what, call.run(), want);
        due(what + ", acts", object.tally(0), acts + 1);
        due(what + ", told -9", object.tally(4), undone);
    }

    /** The call tells -9, and nothing but the count of these changes. */
    static void undone(String what, Sumlarder object, Call call) {
        int[] before = tallies(object);
        String held = held(object);
        due(what, call.run(), -9);
        before[4]++;
        due(what + ", tallies", java.util.Arrays.toString(tallies(object)),
                java.util.Arrays.toString(before));
        due(what + ", what is held", held(object), held);
    }

    /** The call only asks: it answers so and changes nothing. */
    static void asks(String what, Sumlarder object, Call call, Object want) {
        long before = object.digest();
        due(what, call.run(), want);
        due(what + ", digest behind it", object.digest(), before);
    }

    private static int[] tallies(Sumlarder object) {
        int[] all = new int[6];
        for (int what = 0; what < 6; what++) {
            all[what] = object.tally(what);
        }
        return all;
    }

    private static String held(Sumlarder object) {
        StringBuilder all = new StringBuilder();
        for (int i = 0; i < 3; i++) {
            all.append(object.about(i, 0)).append(' ').append(object.about(i, 1)).append(' ');
            all.append(object.ledger(i, 0)).append(' ').append(object.ledger(i, 1)).append(' ');
        }
        return all.append(object.wayText(0)).append(' ').append(object.wayText(1)).toString();
    }

    static void finish(String name) {
        System.out.println(name + ": " + right + " answers as due, " + wrong + " not");
        if (wrong != 0 || right == 0) {
            System.exit(1);
        }
    }
}
