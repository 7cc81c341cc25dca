import java.util.ArrayList;
import java.util.List;

/** Section 3 and promises 1 to 20: each sentence that names an edge of the memories. */
public final class EdgesOfMemoriesTest {
    private static final int MIN = Integer.MIN_VALUE;
    private static final int MAX = Integer.MAX_VALUE;
    // what stands for no worth in some way of holding them, and the ends of int
    private static final int[] NO_WORTHS = {-1, -9, MIN, MAX};

    public static void main(String[] args) {
        keepNothingAtFirst();
        restsIsNeverKept();
        numberBelowNought();
        worthOfWhatRests();
        restingIsAll();
        legsAtTheEdges();
        foundAndMade();
        keptAboveForgottenLegs();
        keys();
        same();
        mix();
        few();
        fewSums();
        surplus();
        surplusSums();
        place();
        learn();
        relearn();
        forget();
        forgetIf();
        forgetIfOfAFullOne();
        forgetAll();
        forgetAllOfAFullOne();
        clear();
        copy();
        copyOfAFullOne();
        pour();
        pourOfAFullOne();
        isKept();
        worthOr();
        confirm();
        about();
        aboutAFullOne();
        has();
        count();
        countOfAFullOne();
        isSame();
        Checks.finish("EdgesOfMemoriesTest");
    }

    private static void due(String what, Object got, Object want) {
        Checks.due(what, got, want);
    }

    private static void counts(Sumlarder s, int wanted, int made, int found) {
        due("WANTED", s.tally(1), wanted);
        due("MADE", s.tally(2), made);
        due("FOUND", s.tally(3), found);
    }

    private static void keepNothingAtFirst() {
        Checks.sentence("3", "There are three memories, 0 to 2; each keeps some CASES with their"
                + " WORTHS, none at first.");
        Sumlarder s = new Sumlarder();
        for (int memory = 0; memory <= 2; memory++) {
            int m = memory;
            due("how many", s.about(m, 0), 0);
            due("mark", s.about(m, 1), 0);
            due("sum", s.about(m, 2), 0);
            due("none", s.about(m, 3), 1);
            for (int kind = 0; kind <= 5; kind++) {
                due("smallest case", s.isKept(m, kind, 1, 1, 0), false);
                due("greatest case", s.isKept(m, kind, 20, 20, 0), false);
            }
            Checks.undone("forget", s, () -> s.forget(m, 0, 1, 1));
            Checks.undone("relearn", s, () -> s.relearn(m, 5, 20, 20));
        }
    }

    private static void restsIsNeverKept() {
        Checks.sentence("3", "A CASE RESTS, if its NUMBER or its MEASURE is 0, or its NUMBER below"
                + " 0; it is never kept.");
        for (int kind = 0; kind <= 5; kind++) {
            Sumlarder s = new Sumlarder();
            int k = kind;
            s.know(0, k, 20, 20);
            s.few(0, 20, 20);
            s.surplus(0, 20);
            int kept = s.about(0, 0);
            for (int n = 0; n <= 20; n++) {
                int other = n;
                s.know(0, k, 0, n);
                s.know(0, k, n, 0);
                due("number 0", s.isKept(0, k, 0, n, n % 3), false);
                due("measure 0", s.isKept(0, k, n, 0, n % 3), false);
                Checks.undone("learn number 0", s, () -> s.learn(0, k, 0, other));
                Checks.undone("learn measure 0", s, () -> s.learn(0, k, other, 0));
            }
            due("none more is kept", s.about(0, 0), kept);
            due("none of number 0", s.count(0, 1, 0), 0);
            due("none of measure 0", s.count(0, 2, 0), 0);
        }
    }

    private static void numberBelowNought() {
        Checks.sentence("3", "or its NUMBER below 0");
        int[] worth = {1, 0, 1, 1, 1, 0};
        int[] chain = {20, 1, 20, 20, 20, 1};
        for (int kind = 0; kind <= 5; kind++) {
            Sumlarder s = new Sumlarder();
            int k = kind;
            // its legs of number 1 - 20 count 0
            Checks.act("know", s, () -> s.know(0, k, 1, 20), worth[k]);
            counts(s, chain[k], chain[k], 0);
            due("all kept have number 1", s.count(0, 1, 1), chain[k]);
            due("all kept", s.about(0, 0), chain[k]);
            for (int below = -1; below >= -19; below--) {
                due("kept of number " + below, s.count(0, 1, below), 0);
            }
        }
    }

    private static void worthOfWhatRests() {
        Checks.sentence("3", "Its WORTH is 0 if the NUMBER is not 0; otherwise 1, but of the KINDS"
                + " 1 and 5 0 if the MEASURE is not 0.");
        for (int kind = 0; kind <= 5; kind++) {
            Sumlarder s = new Sumlarder();
            int k = kind;
            for (int n = 1; n <= 20; n++) {
                int other = n;
                Checks.idleAct("number " + n, s, () -> s.know(1, k, other, 0), 0);
                Checks.idleAct("measure " + n, s, () -> s.know(1, k, 0, other),
                        k == 1 || k == 5 ? 0 : 1);
            }
            Checks.idleAct("both 0", s, () -> s.know(1, k, 0, 0), 1);
            counts(s, 0, 0, 0);
        }
    }

    private static void restingIsAll() {
        Checks.sentence("3", "To KNOW a CASE in a memory: if it RESTS, its WORTH is told, and that"
                + " is all.");
        Twins full = new Twins("know what rests in a full memory");
        full.fillMemory(0);
        Object wanted = full.call("tally", 1);
        for (int kind = 0; kind <= 5; kind++) {
            due("both 0", full.call("know", 0, kind, 0, 0), 1);
            due("measure 0", full.call("know", 0, kind, 20, 0), 0);
            due("number 0", full.call("know", 0, kind, 0, 20), kind == 1 || kind == 5 ? 0 : 1);
        }
        due("WANTED", full.call("tally", 1), wanted);
        due("kept", full.call("about", 0, 0), 2400);
    }

    private static void legsAtTheEdges() {
        Checks.sentence("3", "KIND 0: (n, m - 1) and (n - m, m).");
        legs(0, 1, 1, 1, "1/1", 0);
        legs(0, 3, 2, 2, "1/1 1/2 2/1 3/1 3/2", 1);
        legs(0, 2, 3, 2, "1/1 2/1 2/2 2/3", 0);
        Checks.sentence("3", "1: (n - 1, m - 1) and (n - m, m).");
        legs(1, 1, 1, 1, "1/1", 0);
        legs(1, 1, 2, 0, "1/2", 0);
        legs(1, 2, 1, 1, "1/1 2/1", 0);
        legs(1, 4, 2, 2, "1/1 2/1 2/2 3/1 4/2", 1);
        Checks.sentence("3", "2: (n, m - 1) and (n - m, m - 1).");
        legs(2, 1, 1, 1, "1/1", 0);
        legs(2, 2, 2, 1, "2/1 2/2", 0);
        legs(2, 3, 2, 1, "1/1 3/1 3/2", 0);
        Checks.sentence("3", "3: (n, m - 1), and if m is odd (n - m, m).");
        legs(3, 1, 1, 1, "1/1", 0);
        legs(3, 2, 2, 1, "1/1 2/1 2/2", 0);
        legs(3, 4, 2, 1, "1/1 2/1 3/1 4/1 4/2", 0);
        legs(3, 4, 3, 2, "1/1 1/2 1/3 2/1 3/1 4/1 4/2 4/3", 1);
        Checks.sentence("3", "4: (n, m - 1), and if m is odd (n - m, m - 1).");
        legs(4, 1, 1, 1, "1/1", 0);
        legs(4, 2, 2, 0, "2/1 2/2", 0);
        legs(4, 4, 3, 1, "1/1 1/2 4/1 4/2 4/3", 0);
        Checks.sentence("3", "5: (n - m, m) and (n - m, m - 1).");
        legs(5, 1, 1, 1, "1/1", 0);
        legs(5, 2, 2, 0, "2/2", 0);
        legs(5, 3, 2, 1, "1/1 1/2 3/2", 0);
        legs(5, 4, 2, 1, "1/1 2/1 2/2 4/2", 0);
    }

    /** What one call keeps, and how often it finds, tells the legs; what is made is kept. */
    private static void legs(int kind, int number, int measure, int worth, String due, int found) {
        Sumlarder s = new Sumlarder();
        String what = number + "/" + measure;
        due(what, s.know(0, kind, number, measure), worth);
        List<String> kept = new ArrayList<>();
        for (int n = 1; n <= 4; n++) {
            for (int m = 1; m <= 4; m++) {
                if (s.isKept(0, kind, n, m, 0)) {
                    kept.add(n + "/" + m);
                }
            }
        }
        due(what + " keeps", String.join(" ", kept), due);
        due(what + " keeps no more", s.about(0, 0), kept.size());
        counts(s, kept.size() + found, kept.size(), found);
    }

    private static void foundAndMade() {
        Checks.sentence("3", "Otherwise WANTED goes up by 1; if the memory keeps the CASE, FOUND"
                + " goes up by 1; if not, each of its LEGS is KNOWN there, then the sum of the"
                + " WORTHS of the LEGS is kept as its WORTH, and MADE goes up by 1.");
        Sumlarder s = new Sumlarder();
        s.know(0, 0, 20, 20);
        counts(s, 300, 210, 90);
        s.know(0, 0, 20, 20);
        counts(s, 301, 210, 91);
        s.know(0, 0, 1, 1);
        counts(s, 302, 210, 92);
        s.know(1, 0, 1, 1);
        counts(s, 303, 211, 92);
        s.know(0, 5, 20, 20);
        counts(s, 304, 212, 92);
    }

    private static void keptAboveForgottenLegs() {
        Checks.sentence("3", "if the memory keeps the CASE, FOUND goes up by 1");
        Sumlarder s = new Sumlarder();
        s.know(0, 0, 5, 3);
        s.forget(0, 0, 5, 2);
        counts(s, 14, 11, 3);
        due("found", s.know(0, 0, 5, 3), 5);
        counts(s, 15, 11, 4);
        due("its leg stays forgotten", s.isKept(0, 0, 5, 2, 0), false);
        Sumlarder t = new Sumlarder();
        t.learn(0, 3, 20, 19);
        due("leans on what was learnt", t.know(0, 3, 20, 20), 64);
        counts(t, 2, 1, 1);
    }

    private static void keys() {
        Checks.sentence("3", "A key of a CASE has a MAKING: 0 out of its three numbers, 1 out of"
                + " its CODE, 2 out of the key of NUMBER 0 and MEASURE 0 of its KIND, going up"
                + " from there.");
        int[][] edges = {{1, 1}, {1, 20}, {20, 1}, {20, 20}};
        for (int[] kept : edges) {
            for (int kind = 0; kind <= 5; kind++) {
                Sumlarder s = new Sumlarder();
                s.learn(0, kind, kept[0], kept[1]);
                for (int making = 0; making <= 2; making++) {
                    for (int[] asked : edges) {
                        due("isKept", s.isKept(0, kind, asked[0], asked[1], making),
                                asked == kept);
                        due("of another kind",
                                s.isKept(0, 5 - kind, asked[0], asked[1], making), false);
                    }
                    due("where the going up starts", s.isKept(0, kind, 0, 0, making), false);
                }
            }
        }
    }

    private static void same() {
        Checks.sentence("3", "Two memories are the SAME, if they keep the same CASES with the same"
                + " WORTHS; each is the SAME as itself.");
        Sumlarder s = new Sumlarder();
        Checks.asks("both empty", s, () -> s.isSame(0, 2), true);
        Checks.asks("empty, itself", s, () -> s.isSame(1, 1), true);
        s.learn(0, 5, 20, 20);
        s.learn(2, 5, 20, 19);
        Checks.asks("as many, with the same worth 0", s, () -> s.isSame(0, 2), false);
        Checks.asks("one and none", s, () -> s.isSame(0, 1), false);
        Checks.asks("none and one", s, () -> s.isSame(1, 2), false);
        Checks.asks("itself", s, () -> s.isSame(2, 2), true);
        s.learn(2, 5, 20, 20);
        s.learn(0, 5, 20, 19);
        Checks.asks("in another order", s, () -> s.isSame(2, 0), true);
    }

    private static void mix() {
        Checks.sentence("3", "The MIX of two numbers is that number in whose binary digits a 1"
                + " stands just where theirs are unlike.");
        Sumlarder s = new Sumlarder();
        // 163 is 10100011, 5 is 101
        s.learn(0, 0, 5, 3);
        due("neither sum nor union", s.about(0, 1), 166);
        s.learn(1, 5, 20, 20);
        due("with 0", s.about(1, 1), 5780);
    }

    private static void fewSums() {
        Checks.sentence("Promise 3", "Returns the sum of their WORTHS.");
        for (int number = 0; number <= 20; number++) {
            Sumlarder s = new Sumlarder();
            int n = number;
            Checks.act("none", s, () -> s.few(0, n, 0), n == 0 ? 1 : 0);
            Checks.act("one", s, () -> s.few(0, n, 1), 1);
            Checks.act("all", s, () -> s.few(0, n, 20), Reference.waysOf(6, n, 20));
            Checks.act("up to the number", s, () -> s.few(1, n, n), Reference.waysOf(6, n, 20));
        }
    }

    private static void surplusSums() {
        Checks.sentence("Promise 4", "Returns the sum of the WORTHS with an even MEASURE, less the"
                + " sum of those with an odd one.");
        // only these numbers have one: j * (3 * j - 1) / 2 and j * (3 * j + 1) / 2
        int[] due = {1, -1, -1, 0, 0, 1, 0, 1, 0, 0, 0, 0, -1, 0, 0, -1, 0, 0, 0, 0, 0};
        for (int number = 0; number <= 20; number++) {
            Sumlarder s = new Sumlarder();
            int n = number;
            Checks.act("surplus of " + n, s, () -> s.surplus(1, n), due[n]);
        }
    }

    private static void few() {
        Checks.sentence("Promise 3", "KNOWS the CASES of KIND 1 with that NUMBER and the MEASURES"
                + " 0, 1, .. to the told one, in this order.");
        Sumlarder s = new Sumlarder();
        Checks.idleAct("number 0, measure 0", s, () -> s.few(0, 0, 0), 1);
        Checks.idleAct("number 0, measure 20", s, () -> s.few(0, 0, 20), 1);
        Checks.idleAct("number 20, measure 0", s, () -> s.few(0, 20, 0), 0);
        counts(s, 0, 0, 0);
        Checks.act("number 1, measure 1", s, () -> s.few(0, 1, 1), 1);
        counts(s, 1, 1, 0);
        Checks.act("number 1, measure 20", s, () -> s.few(0, 1, 20), 1);
        counts(s, 21, 20, 1);
        due("measure 20 too", s.isKept(0, 1, 1, 20, 0), true);
        Checks.act("number 20, measure 19", s, () -> s.few(1, 20, 19), 626);
        due("not measure 20", s.isKept(1, 1, 20, 20, 0), false);
        Checks.act("number 20, measure 20", s, () -> s.few(1, 20, 20), 627);
    }

    private static void surplus() {
        Checks.sentence("Promise 4", "KNOWS the CASES of KIND 5 with that NUMBER and the MEASURES"
                + " 0, 1, .. to that NUMBER, in this order.");
        Sumlarder s = new Sumlarder();
        Checks.idleAct("number 0", s, () -> s.surplus(0, 0), 1);
        counts(s, 0, 0, 0);
        Checks.act("number 1", s, () -> s.surplus(0, 1), -1);
        counts(s, 1, 1, 0);
        Checks.act("number 20", s, () -> s.surplus(2, 20), 0);
        due("measure 20", s.isKept(2, 5, 20, 20, 0), true);
        due("each measure", s.count(2, 1, 20), 20);
        Checks.act("number 19", s, () -> s.surplus(2, 19), 0);
        due("measure 19", s.isKept(2, 5, 19, 19, 0), true);
        due("not measure 20", s.isKept(2, 5, 19, 20, 0), false);
    }

    private static void place() {
        Checks.sentence("Promise 5", "REST is its NUMBER less all parts ahead of this one, BEFORE"
                + " the part just ahead (at the first part: its NUMBER).");
        Sumlarder s = new Sumlarder();
        s.layFirst(0, 1);
        Checks.act("of 1", s, () -> s.place(0, 0), 0);
        counts(s, 2, 1, 1);
        s.layFirst(0, 20);
        Checks.act("of 20", s, () -> s.place(1, 0), 0);
        counts(s, 303, 211, 92);
        s.turn(0);
        Checks.act("of the last of 20", s, () -> s.place(1, 0), 626);
        due("made no more", s.tally(2), 211);
        Checks.sentence("Promise 5", "Without parts it is 0.");
        Sumlarder t = new Sumlarder();
        Checks.idleAct("place", t, () -> t.place(2, 0), 0);
        Checks.idleAct("place", t, () -> t.place(2, 1), 0);
    }

    private static void learn() {
        Checks.sentence("Promise 6", "Returns 1 if it did not keep it, otherwise 0; -9 if the CASE"
                + " RESTS.");
        for (int kind = 0; kind <= 5; kind++) {
            Sumlarder s = new Sumlarder();
            int k = kind;
            Checks.act("not kept", s, () -> s.learn(0, k, 1, 1), 1);
            Checks.idleAct("kept", s, () -> s.learn(0, k, 1, 1), 0);
            Checks.act("worth 0 or more, not kept", s, () -> s.learn(0, k, 1, 20), 1);
            Checks.idleAct("worth 0 or more, kept", s, () -> s.learn(0, k, 1, 20), 0);
            s.forget(0, k, 1, 20);
            Checks.act("forgotten", s, () -> s.learn(0, k, 1, 20), 1);
            Checks.undone("rests", s, () -> s.learn(0, k, 0, 0));
            Checks.undone("rests", s, () -> s.learn(0, k, 0, 20));
            Checks.undone("rests", s, () -> s.learn(0, k, 20, 0));
            counts(s, 0, 0, 0);
        }
        Twins full = new Twins("learn in a full memory");
        full.fillMemory(1);
        for (int n = 1; n <= 20; n++) {
            due("kept", full.call("learn", 1, n % 6, n, 21 - n), 0);
        }
        due("full", full.call("about", 1, 0), 2400);
    }

    private static void relearn() {
        Checks.sentence("Promise 7", "Returns its WORTH; -9 if the memory does not keep it.");
        for (int kind = 0; kind <= 5; kind++) {
            Sumlarder s = new Sumlarder();
            int k = kind;
            int[] worth = {627, 1, 64, 64, 7, 0};
            Checks.undone("empty memory", s, () -> s.relearn(0, k, 20, 20));
            s.learn(0, k, 20, 20);
            Checks.idleAct("kept", s, () -> s.relearn(0, k, 20, 20), worth[k]);
            Checks.undone("kept in another memory", s, () -> s.relearn(1, k, 20, 20));
            Checks.undone("another case", s, () -> s.relearn(0, k, 20, 19));
            Checks.undone("rests", s, () -> s.relearn(0, k, 0, 0));
            s.forget(0, k, 20, 20);
            Checks.undone("forgotten", s, () -> s.relearn(0, k, 20, 20));
            counts(s, 0, 0, 0);
        }
    }

    private static void forget() {
        Checks.sentence("Promise 8", "Returns its WORTH; -9 if the memory does not keep it.");
        for (int kind = 0; kind <= 5; kind++) {
            Sumlarder s = new Sumlarder();
            int k = kind;
            int[] worth = {627, 1, 64, 64, 7, 0};
            Checks.undone("empty memory", s, () -> s.forget(2, k, 20, 20));
            s.learn(2, k, 20, 20);
            Checks.undone("kept in another memory", s, () -> s.forget(0, k, 20, 20));
            Checks.undone("another case", s, () -> s.forget(2, k, 19, 20));
            Checks.undone("rests", s, () -> s.forget(2, k, 0, 20));
            Checks.act("kept", s, () -> s.forget(2, k, 20, 20), worth[k]);
            due("empty again", s.about(2, 3), 1);
            Checks.undone("forgotten", s, () -> s.forget(2, k, 20, 20));
        }
    }

    private static void forgetIf() {
        Checks.sentence("Promise 9", "A memory forgets a CASE, if it keeps it and claim is its"
                + " WORTH.");
        Sumlarder s = new Sumlarder();
        for (int claim : new int[] {MIN, -9, -1, 0, 1, MAX}) {
            Checks.idleAct("empty memory", s, () -> s.forgetIf(0, 5, 20, 20, claim), 0);
            Checks.idleAct("rests", s, () -> s.forgetIf(0, 0, 0, 0, claim), 0);
        }
        s.learn(0, 5, 20, 20);
        s.learn(0, 0, 20, 20);
        for (int claim : new int[] {MIN, -9, -1, 1, MAX}) {
            Checks.idleAct("another claim", s, () -> s.forgetIf(0, 5, 20, 20, claim), 0);
        }
        Checks.idleAct("one less", s, () -> s.forgetIf(0, 0, 20, 20, 626), 0);
        Checks.idleAct("one more", s, () -> s.forgetIf(0, 0, 20, 20, 628), 0);
        Checks.act("worth 0", s, () -> s.forgetIf(0, 5, 20, 20, 0), 1);
        Checks.idleAct("worth 0, forgotten", s, () -> s.forgetIf(0, 5, 20, 20, 0), 0);
        Checks.act("worth 627", s, () -> s.forgetIf(0, 0, 20, 20, 627), 1);
        due("empty", s.about(0, 3), 1);
    }

    private static void forgetIfOfAFullOne() {
        Checks.sentence("Promise 9", "Returns 1 if so, otherwise 0.");
        Twins full = new Twins("forgetIf of a full memory");
        full.fillMemory(0);
        for (int kind = 0; kind <= 5; kind++) {
            for (int number : new int[] {1, 20}) {
                int worth = Reference.waysOf(kind, number, 20);
                due("one more", full.call("forgetIf", 0, kind, number, 20, worth + 1), 0);
                due("one less", full.call("forgetIf", 0, kind, number, 20, worth - 1), 0);
                due("so", full.call("forgetIf", 0, kind, number, 20, worth), 1);
                due("so no more", full.call("forgetIf", 0, kind, number, 20, worth), 0);
            }
        }
        due("kept", full.call("about", 0, 0), 2388);
    }

    private static void forgetAll() {
        Checks.sentence("Promise 10", "Returns how many it forgot.");
        Sumlarder s = new Sumlarder();
        for (int what = 0; what <= 3; what++) {
            int w = what;
            for (int value : new int[] {MIN, -9, -1, 0, 1, 20, 21, MAX}) {
                Checks.idleAct("empty memory", s, () -> s.forgetAll(0, w, value), 0);
            }
        }
        s.learn(0, 0, 1, 1);
        s.learn(0, 5, 20, 20);
        for (int value : NO_WORTHS) {
            for (int what = 0; what <= 3; what++) {
                int w = what;
                Checks.idleAct("none so", s, () -> s.forgetAll(0, w, value), 0);
            }
        }
        Checks.idleAct("kind 6", s, () -> s.forgetAll(0, 0, 6), 0);
        Checks.idleAct("number 0", s, () -> s.forgetAll(0, 1, 0), 0);
        Checks.idleAct("measure 0", s, () -> s.forgetAll(0, 2, 0), 0);
        Checks.act("worth 0", s, () -> s.forgetAll(0, 3, 0), 1);
        Checks.act("number 1", s, () -> s.forgetAll(0, 1, 1), 1);
        due("empty", s.about(0, 3), 1);
    }

    private static void forgetAllOfAFullOne() {
        Checks.sentence("Promise 10", "A memory forgets all CASES of which one thing is so.");
        int[] many = {400, 120, 120};
        for (int what = 0; what <= 2; what++) {
            Twins full = new Twins("forgetAll of a full memory");
            full.fillMemory(2);
            full.call("copy", 2, 0);
            int least = what == 0 ? 0 : 1;
            int most = what == 0 ? 5 : 20;
            due("below", full.call("forgetAll", 2, what, least - 1), 0);
            due("above", full.call("forgetAll", 2, what, most + 1), 0);
            for (int value = least; value <= most; value++) {
                due("so", full.call("forgetAll", 2, what, value), many[what]);
                due("so no more", full.call("count", 2, what, value), 0);
            }
            due("nothing left", full.call("about", 2, 3), 1);
            due("the other is full", full.call("about", 0, 0), 2400);
        }
        Twins full = new Twins("forgetAll of a full memory by worth");
        full.fillMemory(2);
        due("worth -1", full.call("forgetAll", 2, 3, -1), 0);
        due("worth 627", full.call("forgetAll", 2, 3, 627), 1);
        due("worth 628", full.call("forgetAll", 2, 3, 628), 0);
        full.call("forgetAll", 2, 3, 0);
        due("the smallest case stays", full.call("isKept", 2, 0, 1, 1, 0), true);
        due("worth 0 is gone", full.call("has", 2, 0), false);
    }

    private static void clear() {
        Checks.sentence("Promise 11", "Returns how many it kept.");
        Sumlarder s = new Sumlarder();
        Checks.idleAct("empty", s, () -> s.clear(0), 0);
        s.learn(0, 5, 20, 20);
        Checks.act("one", s, () -> s.clear(0), 1);
        Checks.idleAct("empty again", s, () -> s.clear(0), 0);
        due("no worth is told", s.worthOr(0, 5, 20, 20, -4), -4);
        Twins full = new Twins("clear of a full memory");
        full.fillMemory(1);
        due("full", full.call("clear", 1), 2400);
        due("none", full.call("about", 1, 3), 1);
        due("none counted", full.call("about", 1, 0), 0);
        due("learns anew", full.call("learn", 1, 0, 20, 20), 1);
    }

    private static void copy() {
        Checks.sentence("Promise 12", "Another memory (or the same) keeps just what this one keeps;"
                + " then each goes its own way.");
        Sumlarder s = new Sumlarder();
        Checks.idleAct("empty into itself", s, () -> s.copy(2, 2), 0);
        Checks.idleAct("empty into empty", s, () -> s.copy(0, 1), 0);
        s.learn(0, 0, 20, 20);
        Checks.idleAct("into itself", s, () -> s.copy(0, 0), 1);
        due("kept", s.worthOr(0, 0, 20, 20, -1), 627);
        Checks.act("into empty", s, () -> s.copy(0, 1), 1);
        Checks.idleAct("into the same", s, () -> s.copy(0, 1), 1);
        s.learn(1, 0, 1, 1);
        due("its own way", s.about(0, 0), 1);
        s.clear(0);
        due("its own way", s.about(1, 0), 2);
        Checks.act("empty into another", s, () -> s.copy(0, 1), 0);
        due("just that", s.about(1, 3), 1);
    }

    private static void copyOfAFullOne() {
        Checks.sentence("Promise 12", "Returns how many CASES it keeps then.");
        Twins full = new Twins("copy of a full memory");
        full.fillMemory(0);
        due("into itself", full.call("copy", 0, 0), 2400);
        due("into empty", full.call("copy", 0, 2), 2400);
        due("into full", full.call("copy", 2, 0), 2400);
        due("same", full.call("isSame", 0, 2), true);
        due("its own way", full.call("forget", 2, 5, 20, 20), 0);
        due("its own way", full.call("isKept", 0, 5, 20, 20, 1), true);
        due("not the same", full.call("isSame", 0, 2), false);
        due("one less", full.call("copy", 2, 0), 2399);
        due("empty into full", full.call("copy", 1, 0), 0);
        due("empty", full.call("about", 0, 3), 1);
    }

    private static void pour() {
        Checks.sentence("Promise 13", "Returns how many CASES it keeps then that it did not keep"
                + " ahead; -9 if both are one memory.");
        Sumlarder s = new Sumlarder();
        Checks.idleAct("empty into empty", s, () -> s.pour(0, 1), 0);
        s.learn(0, 5, 20, 20);
        s.learn(0, 0, 1, 1);
        for (int memory = 0; memory <= 2; memory++) {
            int m = memory;
            Checks.undone("into itself", s, () -> s.pour(m, m));
        }
        Checks.idleAct("empty into another", s, () -> s.pour(1, 0), 0);
        Checks.act("into empty", s, () -> s.pour(0, 2), 2);
        Checks.idleAct("again", s, () -> s.pour(0, 2), 0);
        s.forget(2, 5, 20, 20);
        Checks.act("one that has worth 0", s, () -> s.pour(0, 2), 1);
        due("all", s.about(2, 0), 2);
        s.clear(0);
        due("its own way", s.about(2, 0), 2);
        Checks.outOfBounds("exceptions go ahead", s, () -> s.pour(3, 3));
        Checks.outOfBounds("exceptions go ahead", s, () -> s.pour(-1, -1));
    }

    private static void pourOfAFullOne() {
        Checks.sentence("Promise 13", "Another memory keeps all that this one keeps, too.");
        Twins full = new Twins("pour of a full memory");
        full.fillMemory(0);
        due("into itself", full.call("pour", 0, 0), -9);
        due("empty into full", full.call("pour", 1, 0), 0);
        full.call("learn", 1, 3, 20, 20);
        due("some into full", full.call("pour", 1, 0), 0);
        due("into some", full.call("pour", 0, 1), 2399);
        due("into empty", full.call("pour", 0, 2), 2400);
        due("full into full", full.call("pour", 2, 1), 0);
        due("same", full.call("isSame", 1, 2), true);
        due("not above full", full.call("about", 1, 0), 2400);
    }

    private static void isKept() {
        Checks.sentence("Promise 14", "Returns whether the memory keeps the CASE, by a key of that"
                + " MAKING (all tell the same).");
        Twins full = new Twins("isKept of a full memory");
        full.fillMemory(0);
        for (int making = 0; making <= 2; making++) {
            for (int kind = 0; kind <= 5; kind++) {
                for (int number : new int[] {1, 20}) {
                    due("full", full.call("isKept", 0, kind, number, 21 - number, making), true);
                    due("full", full.call("isKept", 0, kind, number, number, making), true);
                    due("empty", full.call("isKept", 1, kind, number, number, making), false);
                }
                due("rests", full.call("isKept", 0, kind, 0, 20, making), false);
                due("rests", full.call("isKept", 0, kind, 20, 0, making), false);
            }
        }
    }

    private static void worthOr() {
        Checks.sentence("Promise 15", "Returns the WORTH of the CASE, if the memory keeps it,"
                + " otherwise fallback.");
        Sumlarder s = new Sumlarder();
        s.learn(0, 5, 20, 20);
        s.learn(0, 0, 20, 20);
        for (int fallback : new int[] {MIN, -9, -1, 0, 1, MAX}) {
            Checks.asks("worth 0", s, () -> s.worthOr(0, 5, 20, 20, fallback), 0);
            Checks.asks("worth 627", s, () -> s.worthOr(0, 0, 20, 20, fallback), 627);
            Checks.asks("not kept", s, () -> s.worthOr(0, 0, 20, 19, fallback), fallback);
            Checks.asks("rests", s, () -> s.worthOr(0, 0, 0, 0, fallback), fallback);
            Checks.asks("empty memory", s, () -> s.worthOr(1, 5, 20, 20, fallback), fallback);
        }
    }

    private static void confirm() {
        Checks.sentence("Promise 16", "Returns whether the memory keeps the CASE, and claim is its"
                + " WORTH.");
        Sumlarder s = new Sumlarder();
        s.learn(0, 5, 20, 20);
        s.learn(0, 0, 20, 20);
        Checks.asks("worth 0", s, () -> s.confirm(0, 5, 20, 20, 0), true);
        Checks.asks("worth 627", s, () -> s.confirm(0, 0, 20, 20, 627), true);
        Checks.asks("one less", s, () -> s.confirm(0, 0, 20, 20, 626), false);
        Checks.asks("one more", s, () -> s.confirm(0, 0, 20, 20, 628), false);
        for (int claim : new int[] {MIN, -9, -1, 0, 1, MAX}) {
            Checks.asks("not kept", s, () -> s.confirm(0, 5, 19, 20, claim), false);
            Checks.asks("rests", s, () -> s.confirm(0, 0, 0, 0, claim), false);
            Checks.asks("empty memory", s, () -> s.confirm(1, 5, 20, 20, claim), false);
        }
        for (int claim : NO_WORTHS) {
            Checks.asks("another claim", s, () -> s.confirm(0, 5, 20, 20, claim), false);
        }
    }

    private static void about() {
        Checks.sentence("Promise 17", "3 1 if it keeps none, otherwise 0.");
        Sumlarder s = new Sumlarder();
        Checks.asks("empty", s, () -> s.about(0, 3), 1);
        s.learn(0, 5, 20, 20);
        Checks.asks("one with worth 0", s, () -> s.about(0, 3), 0);
        Checks.asks("the sum is 0", s, () -> s.about(0, 2), 0);
        s.forget(0, 5, 20, 20);
        Checks.asks("empty again", s, () -> s.about(0, 3), 1);
        Checks.asks("how many", s, () -> s.about(0, 0), 0);
        Checks.asks("mark", s, () -> s.about(0, 1), 0);
        Checks.asks("sum", s, () -> s.about(0, 2), 0);
    }

    private static void aboutAFullOne() {
        Checks.sentence("Promise 17", "Returns 0 how many CASES it keeps, 1 its MARK: the sum of"
                + " the MIX of CODE and WORTH over all these, 2 the sum of their WORTHS");
        int mark = 0;
        int sum = 0;
        for (int kind = 0; kind <= 5; kind++) {
            for (int number = 1; number <= 20; number++) {
                for (int measure = 1; measure <= 20; measure++) {
                    int worth = Reference.waysOf(kind, number, measure);
                    mark += kind * 1024 + number * 32 + measure ^ worth;
                    sum += worth;
                }
            }
        }
        Twins full = new Twins("about a full memory");
        full.fillMemory(1);
        due("how many", full.call("about", 1, 0), 2400);
        due("mark", full.call("about", 1, 1), mark);
        due("sum", full.call("about", 1, 2), sum);
        due("none", full.call("about", 1, 3), 0);
        due("the others are empty", full.call("about", 0, 3), 1);
        due("the others are empty", full.call("about", 2, 3), 1);
    }

    private static void has() {
        Checks.sentence("Promise 18", "Returns whether it keeps a CASE of which claim is the"
                + " WORTH.");
        Sumlarder s = new Sumlarder();
        for (int claim : new int[] {MIN, -9, -1, 0, 1, MAX}) {
            Checks.asks("empty", s, () -> s.has(0, claim), false);
        }
        s.learn(0, 5, 20, 20);
        Checks.asks("worth 0", s, () -> s.has(0, 0), true);
        Checks.asks("worth 1", s, () -> s.has(0, 1), false);
        for (int claim : NO_WORTHS) {
            Checks.asks("no worth", s, () -> s.has(0, claim), false);
        }
        Twins full = new Twins("has of a full memory");
        full.fillMemory(1);
        for (int claim : new int[] {MIN, -9, -1, 628, MAX}) {
            due("no worth", full.call("has", 1, claim), false);
        }
        for (int claim : new int[] {0, 1, 7, 64, 626, 627}) {
            due("worth " + claim, full.call("has", 1, claim), true);
        }
        full.call("forget", 1, 0, 20, 20);
        due("the only one of 627 is gone", full.call("has", 1, 627), false);
    }

    private static void count() {
        Checks.sentence("Promise 19", "Returns how many CASES it keeps of which one thing is so.");
        Sumlarder s = new Sumlarder();
        for (int what = 0; what <= 3; what++) {
            int w = what;
            for (int value : new int[] {MIN, -9, -1, 0, 1, 20, MAX}) {
                Checks.asks("empty", s, () -> s.count(0, w, value), 0);
            }
        }
        s.learn(0, 5, 20, 20);
        int[] so = {5, 20, 20, 0};
        for (int what = 0; what <= 3; what++) {
            int w = what;
            Checks.asks("so", s, () -> s.count(0, w, so[w]), 1);
            Checks.asks("one less", s, () -> s.count(0, w, so[w] - 1), 0);
            Checks.asks("one more", s, () -> s.count(0, w, so[w] + 1), 0);
        }
    }

    private static void countOfAFullOne() {
        Checks.sentence("Promise 19", "0 the KIND, 1 the NUMBER, 2 the MEASURE, 3 the WORTH");
        Twins full = new Twins("count of a full memory");
        full.fillMemory(0);
        for (int value = -1; value <= 21; value++) {
            due("kind", full.call("count", 0, 0, value), value >= 0 && value <= 5 ? 400 : 0);
            boolean in = value >= 1 && value <= 20;
            due("number", full.call("count", 0, 1, value), in ? 120 : 0);
            due("measure", full.call("count", 0, 2, value), in ? 120 : 0);
            full.call("count", 0, 3, value);
        }
        due("worth 627", full.call("count", 0, 3, 627), 1);
        due("worth -1", full.call("count", 0, 3, -1), 0);
        for (int what = 0; what <= 3; what++) {
            due("the smallest int", full.call("count", 0, what, MIN), 0);
            due("the greatest int", full.call("count", 0, what, MAX), 0);
        }
    }

    private static void isSame() {
        Checks.sentence("Promise 20", "Returns whether both are the SAME.");
        Twins full = new Twins("isSame of a full memory");
        full.fillMemory(0);
        due("full and empty", full.call("isSame", 0, 1), false);
        due("empty and full", full.call("isSame", 1, 0), false);
        due("full, itself", full.call("isSame", 0, 0), true);
        due("both empty", full.call("isSame", 1, 2), true);
        full.call("copy", 0, 1);
        due("both full", full.call("isSame", 1, 0), true);
        full.call("forget", 1, 0, 1, 1);
        due("but for the smallest", full.call("isSame", 0, 1), false);
        full.call("learn", 1, 0, 1, 1);
        full.call("forget", 0, 5, 20, 20);
        due("but for the greatest", full.call("isSame", 0, 1), false);
        full.call("learn", 0, 5, 20, 20);
        due("both full again", full.call("isSame", 0, 1), true);
    }
}
