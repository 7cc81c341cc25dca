import java.util.List;

/** Promises 1 to 22: memories, and the other roads to a worth. */
public final class MemoriesTest {
    private static final int MIN = Integer.MIN_VALUE;
    private static final int MAX = Integer.MAX_VALUE;

    public static void main(String[] args) {
        newObject();
        know();
        knowRests();
        legsOfEachKind();
        few();
        surplus();
        place();
        learn();
        relearn();
        forget();
        forgetIf();
        forgetAll();
        clear();
        copy();
        pour();
        isKept();
        worthOr();
        confirm();
        about();
        has();
        count();
        isSame();
        walk();
        product();
        Checks.finish("MemoriesTest");
    }

    private static void newObject() {
        Sumlarder s = new Sumlarder();
        for (int i = 0; i < 3; i++) {
            Checks.due("new about 0", s.about(i, 0), 0);
            Checks.due("new about 1", s.about(i, 1), 0);
            Checks.due("new about 2", s.about(i, 2), 0);
            Checks.due("new about 3", s.about(i, 3), 1);
            Checks.due("new ledger 0", s.ledger(i, 0), 0);
            Checks.due("new ledger 1", s.ledger(i, 1), 0);
            Checks.due("new isSound", s.isSound(i), true);
            Checks.due("new isSame", s.isSame(0, i), true);
        }
        for (int what = 0; what <= 5; what++) {
            Checks.due("new tally " + what, s.tally(what), 0);
        }
        Checks.due("new wayText", s.wayText(0) + s.wayText(1), "");
    }

    private static void know() {
        Sumlarder s = new Sumlarder();
        Checks.act("know 5 to 3", s, () -> s.know(0, 0, 5, 3), 5);
        // made: 5/3 5/2 5/1 4/1 3/1 2/1 1/1 3/2 1/2 2/3 2/2; found: 3/1, 1/1, 2/1
        counts("know 5 to 3", s, 14, 11, 3);
        // found again: wanted once, found once, nothing made
        Checks.act("know again", s, () -> s.know(0, 0, 5, 3), 5);
        counts("know again", s, 15, 11, 4);
        // another memory knows nothing of it
        Checks.act("know elsewhere", s, () -> s.know(2, 0, 5, 3), 5);
        counts("know elsewhere", s, 29, 22, 7);
        Checks.due("kept", s.about(0, 0), 11);
        Checks.due("kept elsewhere", s.about(2, 0), 11);
        Checks.due("kept nowhere", s.about(1, 0), 0);
        Checks.due("largest", s.know(0, 0, 20, 20), 627);
        Checks.due("largest of few", s.know(0, 1, 20, 20), 1);
        Checks.due("unlike", s.know(0, 2, 20, 20), 64);
        Checks.due("odd", s.know(0, 3, 20, 20), 64);
        Checks.due("odd and unlike", s.know(0, 4, 20, 20), 7);
        Checks.due("unlike, five", s.know(0, 5, 20, 5), 7);
        Checks.due("unlike, too many", s.know(0, 5, 20, 6), 0);
        // a worth of 0 is kept as well
        Checks.due("kept with 0", s.worthOr(0, 5, 20, 6, -1), 0);
    }

    private static void counts(String what, Sumlarder s, int wanted, int made, int found) {
        Checks.due(what + " WANTED", s.tally(1), wanted);
        Checks.due(what + " MADE", s.tally(2), made);
        Checks.due(what + " FOUND", s.tally(3), found);
    }

    private static void knowRests() {
        Sumlarder s = new Sumlarder();
        for (int kind = 0; kind <= 5; kind++) {
            int k = kind;
            int ofNone = kind == 1 || kind == 5 ? 0 : 1;
            Checks.act("rests at 0, 0", s, () -> s.know(0, k, 0, 0), 1);
            Checks.act("rests at 0, 1", s, () -> s.know(0, k, 0, 1), ofNone);
            Checks.act("rests at 0, 20", s, () -> s.know(0, k, 0, 20), ofNone);
            Checks.act("rests at 20, 0", s, () -> s.know(0, k, 20, 0), 0);
            Checks.act("rests at 1, 0", s, () -> s.know(0, k, 1, 0), 0);
        }
        counts("rests", s, 0, 0, 0);
        Checks.due("rests, kept", s.about(0, 0), 0);
    }

    /** Which cases are kept behind one call, and what was counted, tells the legs. */
    private static void legsOfEachKind() {
        legs(0, 6, 4, "1/1 1/2 2/1 2/2 2/3 2/4 3/1 3/2 3/3 4/1 4/2 5/1 6/1 6/2 6/3 6/4");
        legs(1, 6, 3, "1/1 1/2 2/1 2/2 3/1 3/2 3/3 4/1 5/2 6/3");
        legs(2, 6, 3, "1/1 3/1 3/2 4/1 6/1 6/2 6/3");
        legs(3, 6, 3, "1/1 2/1 3/1 3/2 3/3 4/1 5/1 6/1 6/2 6/3");
        legs(3, 4, 4, "1/1 1/2 1/3 2/1 3/1 4/1 4/2 4/3 4/4");
        legs(4, 6, 3, "3/1 3/2 6/1 6/2 6/3");
        legs(4, 4, 4, "1/1 1/2 4/1 4/2 4/3 4/4");
        legs(5, 7, 2, "1/1 1/2 2/1 3/1 3/2 4/1 5/1 5/2 7/2");
    }

    private static void legs(int kind, int number, int measure, String due) {
        Sumlarder s = new Sumlarder();
        Reference model = new Reference();
        s.know(0, kind, number, measure);
        model.know(0, kind, number, measure);
        StringBuilder kept = new StringBuilder();
        for (int n = 0; n <= 20; n++) {
            for (int m = 0; m <= 20; m++) {
                if (s.isKept(0, kind, n, m, 0)) {
                    kept.append(kept.length() == 0 ? "" : " ").append(n).append('/').append(m);
                }
            }
        }
        String what = kind + " " + number + "/" + measure;
        Checks.due("legs of " + what, kept.toString(), due);
        counts("counts of " + what, s, model.tally(1), model.tally(2), model.tally(3));
    }

    private static void few() {
        Sumlarder s = new Sumlarder();
        Checks.act("few", s, () -> s.few(1, 9, 3), 12);
        Checks.due("few kept", s.about(1, 0), s.count(1, 0, 1));
        Checks.due("few kept to its measure", s.isKept(1, 1, 9, 3, 0), true);
        Checks.due("few kept all below", s.isKept(1, 1, 9, 1, 0), true);
        Checks.due("few kept none above", s.isKept(1, 1, 9, 4, 0), false);
        Checks.act("few of 0", s, () -> s.few(1, 0, 0), 1);
        Checks.act("few of 0, more", s, () -> s.few(1, 0, 20), 1);
        Checks.act("few, none", s, () -> s.few(1, 20, 0), 0);
        Checks.act("few, all", s, () -> s.few(1, 20, 20), 627);
        for (int bad : new int[] {-1, 21, MIN, MAX}) {
            Checks.illegal("few number", s, () -> s.few(0, bad, 3));
            Checks.illegal("few measure", s, () -> s.few(0, 3, bad));
            Checks.outOfBounds("few memory first", s, () -> s.few(3, bad, bad));
        }
    }

    private static void surplus() {
        Sumlarder s = new Sumlarder();
        // only 0, 1, 2, 5, 7, 12, 15 have a surplus
        int[] due = {1, -1, -1, 0, 0, 1, 0, 1, 0, 0, 0, 0, -1, 0, 0, -1, 0, 0, 0, 0, 0};
        for (int number = 0; number <= 20; number++) {
            int n = number;
            Checks.act("surplus " + n, s, () -> s.surplus(2, n), due[n]);
        }
        Checks.due("surplus kept", s.about(2, 0), s.count(2, 0, 5));
        Sumlarder one = new Sumlarder();
        one.surplus(0, 6);
        Checks.due("surplus kept its last", one.isKept(0, 5, 6, 6, 0), true);
        Checks.due("surplus kept none above", one.isKept(0, 5, 6, 7, 0), false);
        for (int bad : new int[] {-1, 21, MIN, MAX}) {
            Checks.illegal("surplus number", s, () -> s.surplus(0, bad));
            Checks.outOfBounds("surplus memory first", s, () -> s.surplus(-1, bad));
        }
    }

    private static void place() {
        for (int number = 0; number <= 20; number++) {
            Sumlarder s = new Sumlarder();
            int ahead = 0;
            for (List<Integer> way : Reference.ways(number)) {
                // no object is asked more often than the document promises
                s = ahead % 20 == 0 ? new Sumlarder() : s;
                s.layFirst(0, 0);
                for (int part : way) {
                    s.addPart(0, part, 1);
                }
                Checks.due("place of " + way, s.place(0, 0), ahead);
                ahead++;
            }
        }
        Sumlarder s = new Sumlarder();
        Checks.act("place of none", s, () -> s.place(0, 0), 0);
        counts("place of none", s, 0, 0, 0);
        s.addPart(1, 2, 1);
        s.addPart(1, 1, 1);
        // 3/3 (makes 3/2, 3/1, 2/1, 1/1, 1/2 too, finds 1/1), finds 3/2, then 1/2 and 1/1
        Checks.act("place of 2+1", s, () -> s.place(1, 1), 1);
        counts("place of 2+1", s, 10, 6, 4);
        Checks.due("place leaves the desk", s.wayText(1), "2+1");
        // one part of 20: the same case twice, so the second time it is found
        Sumlarder whole = new Sumlarder();
        whole.layFirst(0, 20);
        Checks.act("place of 20", whole, () -> whole.place(0, 0), 0);
        counts("place of 20", whole, 301, 210, 91);
        for (int bad : new int[] {-1, 2, 3, MIN, MAX}) {
            Checks.outOfBounds("place desk", s, () -> s.place(0, bad));
        }
    }

    private static void learn() {
        Sumlarder s = new Sumlarder();
        Checks.act("learn", s, () -> s.learn(1, 2, 10, 10), 1);
        Checks.act("learn again", s, () -> s.learn(1, 2, 10, 10), 0);
        counts("learn knows nothing", s, 0, 0, 0);
        Checks.due("learn keeps one", s.about(1, 0), 1);
        Checks.due("learnt", s.worthOr(1, 2, 10, 10, -1), 10);
        Checks.undone("learn what rests", s, () -> s.learn(1, 2, 0, 10));
        Checks.undone("learn what rests", s, () -> s.learn(1, 2, 10, 0));
        Checks.undone("learn what rests", s, () -> s.learn(1, 2, 0, 0));
        for (int kind = 0; kind <= 5; kind++) {
            for (int number = 1; number <= 20; number += 4) {
                int k = kind;
                int n = number;
                int due = Reference.waysOf(k, n, 3);
                Sumlarder t = new Sumlarder();
                Checks.act("learn", t, () -> t.learn(0, k, n, 3), 1);
                Checks.due("learnt", t.worthOr(0, k, n, 3, -1), due);
            }
        }
    }

    private static void relearn() {
        Sumlarder s = new Sumlarder();
        Checks.undone("relearn of none", s, () -> s.relearn(1, 2, 10, 10));
        s.learn(1, 2, 10, 10);
        Checks.act("relearn", s, () -> s.relearn(1, 2, 10, 10), 10);
        Checks.due("relearn keeps", s.about(1, 0), 1);
        counts("relearn knows nothing", s, 0, 0, 0);
        Checks.undone("relearn elsewhere", s, () -> s.relearn(0, 2, 10, 10));
        Checks.undone("relearn what rests", s, () -> s.relearn(1, 0, 0, 0));
        s.know(2, 5, 20, 6);
        Checks.act("relearn with 0", s, () -> s.relearn(2, 5, 20, 6), 0);
        for (int kind = 0; kind <= 5; kind++) {
            int k = kind;
            s.learn(0, k, 18, 5);
            Checks.act("relearn", s, () -> s.relearn(0, k, 18, 5), Reference.waysOf(k, 18, 5));
        }
    }

    private static void forget() {
        Sumlarder s = new Sumlarder();
        s.know(0, 1, 9, 3);
        int kept = s.about(0, 0);
        Checks.act("forget", s, () -> s.forget(0, 1, 9, 3), 7);
        Checks.due("forgot one", s.about(0, 0), kept - 1);
        Checks.due("forgot it", s.isKept(0, 1, 9, 3, 0), false);
        Checks.undone("forget again", s, () -> s.forget(0, 1, 9, 3));
        Checks.undone("forget what rests", s, () -> s.forget(0, 1, 0, 0));
        Checks.undone("forget elsewhere", s, () -> s.forget(1, 1, 9, 2));
        s.know(0, 5, 3, 9);
        Checks.act("forget a worth of 0", s, () -> s.forget(0, 5, 3, 9), 0);
        // only what was forgotten is made anew
        int made = s.tally(2);
        Checks.act("know anew", s, () -> s.know(0, 1, 9, 3), 7);
        Checks.due("made anew", s.tally(2), made + 1);
    }

    private static void forgetIf() {
        Sumlarder s = new Sumlarder();
        s.know(0, 1, 9, 3);
        int kept = s.about(0, 0);
        Checks.act("forgetIf wrong", s, () -> s.forgetIf(0, 1, 9, 3, 6), 0);
        Checks.act("forgetIf not kept", s, () -> s.forgetIf(0, 1, 9, 4, 6), 0);
        for (int claim : new int[] {-9, -1, 0, 1, MIN, MAX}) {
            Checks.act("forgetIf not kept", s, () -> s.forgetIf(0, 1, 9, 4, claim), 0);
            Checks.act("forgetIf rests", s, () -> s.forgetIf(0, 1, 0, 0, claim), 0);
        }
        Checks.due("forgetIf kept all", s.about(0, 0), kept);
        Checks.act("forgetIf", s, () -> s.forgetIf(0, 1, 9, 3, 7), 1);
        Checks.due("forgetIf forgot one", s.about(0, 0), kept - 1);
        Checks.act("forgetIf again", s, () -> s.forgetIf(0, 1, 9, 3, 7), 0);
    }

    private static Sumlarder filled() {
        Sumlarder s = new Sumlarder();
        s.know(1, 0, 12, 12);
        s.know(1, 3, 11, 7);
        s.know(1, 5, 20, 6);
        return s;
    }

    private static void forgetAll() {
        int[] values = {0, 1, 3, 5, 7, 11, 20, 21, -1, -9, MIN, MAX};
        for (int what = 0; what <= 3; what++) {
            for (int value : values) {
                int w = what;
                Sumlarder s = filled();
                int many = s.count(1, w, value);
                int kept = s.about(1, 0);
                Checks.act("forgetAll " + w + " " + value, s,
                        () -> s.forgetAll(1, w, value), many);
                Checks.due("forgetAll left", s.about(1, 0), kept - many);
                Checks.due("forgetAll left of these", s.count(1, w, value), 0);
                Checks.act("forgetAll again", s, () -> s.forgetAll(1, w, value), 0);
            }
        }
        Sumlarder s = filled();
        for (int bad : new int[] {-1, 4, MIN, MAX}) {
            Checks.illegal("forgetAll what", s, () -> s.forgetAll(1, bad, 0));
            Checks.outOfBounds("forgetAll memory first", s, () -> s.forgetAll(3, bad, 0));
        }
    }

    private static void clear() {
        Sumlarder s = filled();
        s.know(0, 0, 2, 1);
        int kept = s.about(1, 0);
        Checks.act("clear", s, () -> s.clear(1), kept);
        Checks.due("cleared", s.about(1, 3), 1);
        Checks.due("cleared marks", s.about(1, 1), 0);
        Checks.due("another is as it was", s.about(0, 0), 2);
        Checks.act("clear again", s, () -> s.clear(1), 0);
    }

    private static void copy() {
        Sumlarder s = filled();
        s.know(0, 2, 9, 9);
        int kept = s.about(1, 0);
        Checks.act("copy", s, () -> s.copy(1, 0), kept);
        Checks.due("copied", s.isSame(0, 1), true);
        Checks.due("what was there went", s.count(0, 0, 2), 0);
        Checks.due("copied marks", s.about(0, 1), s.about(1, 1));
        s.forget(0, 0, 12, 12);
        Checks.due("each its own way", s.isKept(1, 0, 12, 12, 0), true);
        s.clear(1);
        Checks.due("each its own way", s.about(0, 0), kept - 1);
        Checks.act("copy to itself", s, () -> s.copy(0, 0), kept - 1);
        Checks.act("copy of nothing", s, () -> s.copy(2, 0), 0);
        Checks.due("copied nothing", s.about(0, 3), 1);
    }

    private static void pour() {
        Sumlarder s = new Sumlarder();
        s.learn(0, 0, 5, 3);
        s.learn(0, 0, 6, 3);
        s.learn(1, 0, 6, 3);
        s.learn(1, 2, 6, 3);
        Checks.act("pour", s, () -> s.pour(0, 1), 1);
        Checks.due("poured", s.about(1, 0), 3);
        Checks.due("poured from", s.about(0, 0), 2);
        Checks.due("poured sum", s.about(1, 2), 5 + 7 + 1);
        Checks.act("pour again", s, () -> s.pour(0, 1), 0);
        Checks.act("pour of nothing", s, () -> s.pour(2, 1), 0);
        Checks.act("pour into nothing", s, () -> s.pour(1, 2), 3);
        Checks.due("poured the same", s.isSame(1, 2), true);
        s.forget(2, 0, 5, 3);
        Checks.due("each its own way", s.isKept(0, 0, 5, 3, 0), true);
        for (int m = 0; m < 3; m++) {
            int memory = m;
            Checks.undone("pour into itself", s, () -> s.pour(memory, memory));
        }
    }

    private static void isKept() {
        Sumlarder s = new Sumlarder();
        s.know(2, 4, 9, 3);
        for (int making = 0; making <= 2; making++) {
            int m = making;
            Checks.asks("isKept", s, () -> s.isKept(2, 4, 9, 3, m), true);
            Checks.asks("isKept, another kind", s, () -> s.isKept(2, 3, 9, 3, m), false);
            Checks.asks("isKept, another number", s, () -> s.isKept(2, 4, 3, 9, m), false);
            Checks.asks("isKept, another measure", s, () -> s.isKept(2, 4, 9, 4, m), false);
            Checks.asks("isKept, another memory", s, () -> s.isKept(1, 4, 9, 3, m), false);
            Checks.asks("isKept, rests", s, () -> s.isKept(2, 4, 0, 0, m), false);
        }
        for (int bad : new int[] {-1, 3, MIN, MAX}) {
            Checks.illegal("isKept making", s, () -> s.isKept(2, 4, 9, 3, bad));
            Checks.outOfBounds("isKept memory first", s, () -> s.isKept(3, 4, 9, 3, bad));
        }
    }

    private static void worthOr() {
        Sumlarder s = new Sumlarder();
        s.learn(2, 4, 12, 9);
        s.learn(2, 5, 20, 6);
        for (int fallback : new int[] {-9, -1, 0, 5, MIN, MAX}) {
            Checks.asks("worthOr", s, () -> s.worthOr(2, 4, 12, 9, fallback), 2);
            Checks.asks("worthOr 0", s, () -> s.worthOr(2, 5, 20, 6, fallback), 0);
            Checks.asks("worthOr none", s, () -> s.worthOr(2, 4, 12, 8, fallback), fallback);
            Checks.asks("worthOr elsewhere", s, () -> s.worthOr(1, 4, 12, 9, fallback), fallback);
            Checks.asks("worthOr rests", s, () -> s.worthOr(2, 0, 0, 0, fallback), fallback);
        }
        s.forget(2, 4, 12, 9);
        Checks.asks("worthOr forgotten", s, () -> s.worthOr(2, 4, 12, 9, -4), -4);
    }

    private static void confirm() {
        Sumlarder s = new Sumlarder();
        s.learn(2, 4, 12, 9);
        Checks.asks("confirm", s, () -> s.confirm(2, 4, 12, 9, 2), true);
        Checks.asks("confirm wrong", s, () -> s.confirm(2, 4, 12, 9, 3), false);
        for (int claim : new int[] {-9, -1, 0, 1, 2, MIN, MAX}) {
            Checks.asks("confirm none", s, () -> s.confirm(2, 4, 12, 8, claim), false);
            Checks.asks("confirm rests", s, () -> s.confirm(2, 4, 0, 0, claim), false);
        }
        s.forget(2, 4, 12, 9);
        Checks.asks("confirm forgotten", s, () -> s.confirm(2, 4, 12, 9, 2), false);
    }

    private static void about() {
        Sumlarder s = new Sumlarder();
        s.learn(1, 0, 5, 3);
        s.learn(1, 5, 20, 5);
        Checks.asks("about 0", s, () -> s.about(1, 0), 2);
        Checks.asks("about 1", s, () -> s.about(1, 1),
                ((5 * 32 + 3) ^ 5) + ((5 * 1024 + 20 * 32 + 5) ^ 7));
        Checks.asks("about 2", s, () -> s.about(1, 2), 12);
        Checks.asks("about 3", s, () -> s.about(1, 3), 0);
        Checks.asks("about 3 of none", s, () -> s.about(0, 3), 1);
        for (int bad : new int[] {-1, 4, MIN, MAX}) {
            Checks.illegal("about which", s, () -> s.about(1, bad));
            Checks.outOfBounds("about memory first", s, () -> s.about(3, bad));
        }
    }

    private static void has() {
        Sumlarder s = new Sumlarder();
        Checks.asks("has of none", s, () -> s.has(0, 0), false);
        s.learn(0, 0, 5, 3);
        Checks.asks("has", s, () -> s.has(0, 5), true);
        Checks.asks("has not", s, () -> s.has(0, 4), false);
        for (int claim : new int[] {-9, -1, 0, 1, MIN, MAX}) {
            Checks.asks("has not", s, () -> s.has(0, claim), false);
        }
        s.learn(0, 5, 20, 6);
        Checks.asks("has 0", s, () -> s.has(0, 0), true);
        s.forget(0, 0, 5, 3);
        Checks.asks("has no more", s, () -> s.has(0, 5), false);
    }

    private static void count() {
        Sumlarder s = new Sumlarder();
        s.learn(0, 0, 5, 3);
        s.learn(0, 0, 6, 3);
        s.learn(0, 2, 5, 4);
        s.learn(0, 5, 20, 6);
        Checks.asks("count kind", s, () -> s.count(0, 0, 0), 2);
        Checks.asks("count kind", s, () -> s.count(0, 0, 2), 1);
        Checks.asks("count kind", s, () -> s.count(0, 0, 6), 0);
        Checks.asks("count number", s, () -> s.count(0, 1, 5), 2);
        Checks.asks("count number", s, () -> s.count(0, 1, 0), 0);
        Checks.asks("count measure", s, () -> s.count(0, 2, 3), 2);
        Checks.asks("count measure", s, () -> s.count(0, 2, 6), 1);
        Checks.asks("count measure", s, () -> s.count(0, 2, 21), 0);
        Checks.asks("count worth", s, () -> s.count(0, 3, 0), 1);
        Checks.asks("count worth", s, () -> s.count(0, 3, 2), 1);
        Checks.asks("count worth", s, () -> s.count(0, 3, -1), 0);
        for (int value : new int[] {-9, MIN, MAX}) {
            for (int what = 0; what <= 3; what++) {
                int w = what;
                Checks.asks("count", s, () -> s.count(0, w, value), 0);
            }
        }
        for (int bad : new int[] {-1, 4, MIN, MAX}) {
            Checks.illegal("count what", s, () -> s.count(0, bad, 0));
            Checks.outOfBounds("count memory first", s, () -> s.count(-1, bad, 0));
        }
    }

    private static void isSame() {
        Sumlarder s = new Sumlarder();
        s.learn(0, 0, 5, 3);
        s.learn(1, 0, 5, 3);
        Checks.asks("isSame", s, () -> s.isSame(0, 1), true);
        Checks.asks("isSame", s, () -> s.isSame(1, 0), true);
        Checks.asks("isSame not", s, () -> s.isSame(0, 2), false);
        Checks.asks("isSame not", s, () -> s.isSame(2, 0), false);
        Checks.asks("isSame as itself", s, () -> s.isSame(0, 0), true);
        s.learn(1, 0, 6, 3);
        Checks.asks("isSame not", s, () -> s.isSame(0, 1), false);
        Checks.asks("isSame not", s, () -> s.isSame(1, 0), false);
        s.forget(1, 0, 5, 3);
        Checks.asks("as many, not the same", s, () -> s.isSame(0, 1), false);
        // what was forgotten leaves no trace
        s.forget(1, 0, 6, 3);
        Checks.asks("isSame, none", s, () -> s.isSame(1, 2), true);
    }

    private static void walk() {
        road("walk", true);
    }

    private static void product() {
        road("product", false);
    }

    private static void road(String name, boolean walks) {
        for (int kind = 0; kind <= 7; kind++) {
            for (int number = 0; number <= 20; number++) {
                Sumlarder s = new Sumlarder();
                for (int measure = 0; measure <= 20; measure++) {
                    int k = kind;
                    int n = number;
                    int m = measure;
                    Checks.asks(name + " " + k + " " + n + " " + m, s,
                            () -> walks ? s.walk(k, n, m) : s.product(k, n, m),
                            Reference.waysOf(k, n, m));
                }
            }
        }
        Sumlarder s = new Sumlarder();
        for (int bad : new int[] {-1, 8, MIN, MAX}) {
            Checks.illegal(name, s, () -> walks ? s.walk(bad, 3, 3) : s.product(bad, 3, 3));
        }
        for (int bad : new int[] {-1, 21, MIN, MAX}) {
            Checks.illegal(name, s, () -> walks ? s.walk(6, bad, 3) : s.product(6, bad, 3));
            Checks.illegal(name, s, () -> walks ? s.walk(7, 3, bad) : s.product(7, 3, bad));
        }
    }
}
