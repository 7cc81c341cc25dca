import java.util.Objects;

/** What the tests share: answers that are due, and calls that must be refused. */
final class Checks {
    interface Call {
        Object run();
    }

    private static int right = 0;
    private static int wrong = 0;
    private static String sentence = "";
    private static int underSentence = 1;

    private Checks() {
    }

    /** What follows, up to the next sentence, looks at these words of the document. */
    static void sentence(String where, String words) {
        leaveSentence();
        sentence = where + ", \"" + words + "\": ";
        underSentence = 0;
    }

    private static void leaveSentence() {
        if (underSentence == 0) {
            wrong++;
            System.out.println(sentence + "nothing was looked at");
        }
        underSentence = 1;
    }

    static void due(String what, Object got, Object want) {
        underSentence++;
        if (Objects.equals(got, want)) {
            right++;
        } else {
            wrong++;
            System.out.println(sentence + what + " answered " + got + ", due is " + want);
        }
    }

    /** The call throws just IndexOutOfBoundsException and changes nothing. */
    static void outOfBounds(String what, Sumlarder object, Call call) {
        refused(what, object, call, IndexOutOfBoundsException.class);
    }

    /** The call throws just IllegalArgumentException and changes nothing. */
    static void illegal(String what, Sumlarder object, Call call) {
        refused(what, object, call, IllegalArgumentException.class);
    }

    private static void refused(String what, Sumlarder object, Call call, Class<?> due) {
        long before = object.digest();
        Object got;
        try {
            got = call.run();
        } catch (RuntimeException e) {
            got = e.getClass();
        }
        due(what, got, due);
        due(what + ", digest behind it", object.digest(), before);
    }

    /** The call is an act: it answers so, and the count of acts alone goes up with it. */
    static void act(String what, Sumlarder object, Call call, Object want) {
        int acts = object.tally(0);
        int undone = object.tally(4);
        due(what, call.run(), want);
        due(what + ", acts", object.tally(0), acts + 1);
        due(what + ", told -9", object.tally(4), undone);
    }

    /** The call is an act that leaves all as it was: only the count of acts goes up. */
    static void idleAct(String what, Sumlarder object, Call call, Object want) {
        long before = object.digest();
        due(what, call.run(), want);
        // the acts are the sixth number from the end of the digest
        due(what + ", digest behind it", object.digest(), before + 31L * 31 * 31 * 31 * 31);
    }

    /** The call tells -9, and nothing but the count of these goes up. */
    static void undone(String what, Sumlarder object, Call call) {
        long before = object.digest();
        due(what, call.run(), -9);
        // the count of -9 is the last number but one of the digest
        due(what + ", digest behind it", object.digest(), before + 31);
    }

    /** The call only asks: it answers so and changes nothing. */
    static void asks(String what, Sumlarder object, Call call, Object want) {
        long before = object.digest();
        due(what, call.run(), want);
        due(what + ", digest behind it", object.digest(), before);
    }

    static void finish(String name) {
        leaveSentence();
        System.out.println(name + ": " + right + " answers as due, " + wrong + " not");
        if (wrong != 0 || right == 0) {
            System.exit(1);
        }
    }
}
