/** Promises 40 to 43: the whole. */
public final class WholeTest {
    private static final int MIN = Integer.MIN_VALUE;
    private static final int MAX = Integer.MAX_VALUE;

    public static void main(String[] args) {
        tally();
        knock();
        isSound();
        digest();
        twoObjects();
        Checks.finish("WholeTest");
    }

    private static void tally() {
        Sumlarder s = new Sumlarder();
        s.know(0, 0, 5, 3);
        s.know(0, 0, 5, 3);
        s.rule(0, 3);
        s.learn(0, 0, 0, 0);
        s.next(0);
        s.next(0);
        s.knock();
        s.isKept(0, 0, 5, 3, 0);
        s.worthOr(0, 0, 6, 6, -9);
        s.walk(0, 5, 3);
        int[] due = {3, 19, 14, 5, 3, 1};
        for (int what = 0; what <= 5; what++) {
            int w = what;
            Checks.asks("tally " + w, s, () -> s.tally(w), due[w]);
        }
        for (int bad : new int[] {-1, 6, MIN, MAX}) {
            Checks.illegal("tally", s, () -> s.tally(bad));
        }
    }

    private static void knock() {
        Sumlarder s = new Sumlarder();
        for (int times = 1; times <= 500; times++) {
            Checks.due("knock", s.knock(), times);
        }
        Checks.due("knocked", s.tally(5), 500);
        for (int what = 0; what <= 4; what++) {
            Checks.due("knocking is nothing else", s.tally(what), 0);
        }
    }

    private static void isSound() {
        Sumlarder s = new Sumlarder();
        for (int memory = 0; memory <= 2; memory++) {
            int m = memory;
            Checks.asks("isSound, new", s, () -> s.isSound(m), true);
        }
        for (int kind = 0; kind <= 5; kind++) {
            for (int measure = 0; measure <= 20; measure++) {
                s.know(0, kind, 20, measure);
            }
            s.learn(1, kind, 17, 4);
        }
        s.rule(1, 20);
        s.forgetAll(0, 3, 1);
        s.pour(0, 1);
        s.copy(1, 2);
        for (int memory = 0; memory <= 2; memory++) {
            int m = memory;
            Checks.asks("isSound", s, () -> s.isSound(m), true);
        }
        for (int bad : new int[] {-1, 3, MIN, MAX}) {
            Checks.outOfBounds("isSound", s, () -> s.isSound(bad));
        }
    }

    private static void digest() {
        Sumlarder s = new Sumlarder();
        Checks.due("digest, new", s.digest(), digestOf(s));
        s.know(0, 0, 9, 9);
        s.know(1, 1, 8, 9);
        s.know(2, 2, 7, 9);
        s.rule(0, 9);
        s.rule(1, 8);
        s.rule(2, 7);
        s.addPart(0, 3, 3);
        s.addPart(1, 1, 4);
        s.addPart(1, 16, 1);
        s.addPart(1, 16, 1);
        s.knock();
        Checks.due("digest", s.digest(), digestOf(s));
        long before = s.digest();
        Checks.due("digest changes nothing", s.digest(), before);
        s.knock();
        Checks.due("digest tells knocks", s.digest(), before + 1);
    }

    private static long digestOf(Sumlarder s) {
        long d = 7978;
        for (int i = 0; i < 3; i++) {
            d = (d * 31 + s.about(i, 0)) * 31 + s.about(i, 1);
        }
        for (int i = 0; i < 3; i++) {
            d = (d * 31 + s.ledger(i, 0)) * 31 + s.ledger(i, 1);
        }
        for (int i = 0; i < 2; i++) {
            d = (d * 31 + s.way(i, 0)) * 31 + s.way(i, 1);
            for (int part = 1; part <= 20; part++) {
                d = d * 31 + s.times(i, part);
            }
        }
        for (int what = 0; what <= 5; what++) {
            d = d * 31 + s.tally(what);
        }
        return d;
    }

    private static void twoObjects() {
        Sumlarder one = new Sumlarder();
        Sumlarder other = new Sumlarder();
        long before = other.digest();
        one.know(0, 0, 9, 9);
        one.rule(1, 9);
        one.layFirst(0, 9);
        one.knock();
        Checks.due("objects are apart", other.digest(), before);
    }
}
