import java.math.BigInteger;

/** Section 6, promises 1 and 40 to 43: each sentence that names an edge of the whole. */
public final class EdgesOfTheWholeTest {
    private static final int MIN = Integer.MIN_VALUE;
    private static final int MAX = Integer.MAX_VALUE;
    private static final int LAST_CALL = 512;

    public static void main(String[] args) {
        newObject();
        lastCall();
        actsWhereAllStays();
        actsThatChange();
        oneActACall();
        noActs();
        undoneIsNoAct();
        undoneIsCounted();
        thrownChangesNothing();
        firstNamedException();
        exceptionsAheadOfUndone();
        tally();
        knock();
        isSound();
        isSoundWhenFull();
        digestWraps();
        digestOrder();
        Checks.finish("EdgesOfTheWholeTest");
    }

    private static void newObject() {
        Checks.sentence("Promise 1", "Creates memories and ledgers that keep nothing, and desks"
                + " with WAYS without parts.");
        Sumlarder s = new Sumlarder();
        for (int at = 0; at <= 2; at++) {
            Checks.due("memory keeps nothing", s.about(at, 3), 1);
            Checks.due("ledger keeps nothing", s.ledger(at, 0), 0);
        }
        Checks.due("desk 0", s.wayText(0), "");
        Checks.due("desk 1", s.wayText(1), "");
        Sumlarder used = new Sumlarder();
        used.know(0, 0, 20, 20);
        used.rule(0, 20);
        used.layFirst(0, 20);
        used.knock();
        Checks.due("an object of its own", new Sumlarder().digest(), s.digest());
        Checks.due("an object of its own", s.about(0, 0), 0);
    }

    private static void lastCall() {
        Checks.sentence("What it is", "An object is used for at most 512 calls after it has been"
                + " made");
        Sumlarder s = new Sumlarder();
        for (int call = 1; call <= LAST_CALL - 2; call++) {
            s.know(call % 3, 0, 20, 20);
        }
        Checks.due("call 511", s.tally(0), LAST_CALL - 2);
        Checks.due("call 512", s.know(0, 0, 20, 20), 627);
        Sumlarder knocked = new Sumlarder();
        for (int call = 1; call <= LAST_CALL; call++) {
            Checks.due("knock", knocked.knock(), call);
        }
        Sumlarder refused = new Sumlarder();
        refused.learn(0, 0, 20, 20);
        for (int call = 2; call <= LAST_CALL - 1; call++) {
            refused.pour(0, 0);
        }
        Checks.due("call 512", refused.tally(4), LAST_CALL - 2);
    }

    private static void actsWhereAllStays() {
        Checks.sentence("6", "also where all stays as it was");
        Sumlarder s = new Sumlarder();
        Checks.idleAct("know", s, () -> s.know(0, 0, 0, 0), 1);
        Checks.idleAct("few", s, () -> s.few(0, 20, 0), 0);
        Checks.idleAct("surplus", s, () -> s.surplus(0, 0), 1);
        Checks.idleAct("place", s, () -> s.place(0, 0), 0);
        s.learn(0, 0, 20, 20);
        Checks.idleAct("learn", s, () -> s.learn(0, 0, 20, 20), 0);
        Checks.idleAct("relearn", s, () -> s.relearn(0, 0, 20, 20), 627);
        Checks.idleAct("forgetIf", s, () -> s.forgetIf(0, 0, 20, 20, 626), 0);
        Checks.idleAct("forgetAll", s, () -> s.forgetAll(0, 0, 5), 0);
        Checks.idleAct("clear", s, () -> s.clear(1), 0);
        Checks.idleAct("copy", s, () -> s.copy(0, 0), 1);
        Checks.idleAct("pour", s, () -> s.pour(1, 0), 0);
        Checks.idleAct("rule", s, () -> s.rule(0, 0), 1);
        Checks.idleAct("forgetRule", s, () -> s.forgetRule(0, 0), 0);
        s.layFirst(0, 1);
        Checks.idleAct("layFirst", s, () -> s.layFirst(0, 1), 1);
        Checks.idleAct("turn", s, () -> s.turn(0), 0);
        Checks.idleAct("toUnlike", s, () -> s.toUnlike(0), 1);
        Checks.idleAct("toOdd", s, () -> s.toOdd(0), 1);
        s.copyDesk(0);
        Checks.idleAct("copyDesk", s, () -> s.copyDesk(0), 1);
    }

    private static void actsThatChange() {
        Checks.sentence("6", "ACTS are the calls of know, few, surplus, place, learn, relearn,"
                + " forget, forgetIf, forgetAll, clear, copy, pour, rule, forgetRule, addPart,"
                + " takePart, layFirst, next, turn, toUnlike, toOdd, copyDesk");
        Sumlarder s = new Sumlarder();
        Checks.act("know", s, () -> s.know(0, 0, 20, 20), 627);
        Checks.act("few", s, () -> s.few(0, 20, 20), 627);
        Checks.act("surplus", s, () -> s.surplus(0, 20), 0);
        Checks.act("layFirst", s, () -> s.layFirst(0, 20), 1);
        Checks.act("place", s, () -> s.place(1, 0), 0);
        Checks.act("learn", s, () -> s.learn(1, 5, 20, 20), 1);
        Checks.act("relearn", s, () -> s.relearn(1, 5, 20, 20), 0);
        Checks.act("forget", s, () -> s.forget(1, 5, 20, 20), 0);
        Checks.act("forgetIf", s, () -> s.forgetIf(1, 0, 20, 20, 627), 1);
        Checks.act("forgetAll", s, () -> s.forgetAll(1, 0, 0), 209);
        Checks.act("pour", s, () -> s.pour(0, 1), s.about(0, 0));
        Checks.act("copy", s, () -> s.copy(0, 2), s.about(0, 0));
        Checks.act("clear", s, () -> s.clear(2), s.about(0, 0));
        Checks.act("rule", s, () -> s.rule(2, 20), 64);
        Checks.act("forgetRule", s, () -> s.forgetRule(2, 20), 64);
        Checks.act("forgetRule", s, () -> s.forgetRule(2, 0), 19);
        Checks.act("next", s, () -> s.next(0), 2);
        Checks.act("toOdd", s, () -> s.toOdd(0), 2);
        Checks.act("takePart", s, () -> s.takePart(0, 19), 0);
        Checks.act("addPart", s, () -> s.addPart(0, 1, 19), 20);
        Checks.act("toUnlike", s, () -> s.toUnlike(0), 2);
        Checks.act("turn", s, () -> s.turn(0), 1);
        Checks.act("copyDesk", s, () -> s.copyDesk(0), 2);
    }

    private static void oneActACall() {
        Checks.sentence("6", "ACTS are the calls");
        Sumlarder s = new Sumlarder();
        s.few(0, 20, 20);
        s.surplus(0, 20);
        s.layFirst(0, 20);
        s.turn(0);
        s.place(0, 0);
        Checks.due("however many cases are known", s.tally(0), 5);
        s.forgetAll(0, 0, 1);
        s.clear(0);
        s.forgetRule(0, 0);
        Checks.due("however many are forgotten", s.tally(0), 8);
    }

    private static void noActs() {
        Checks.sentence("6", "ACTS are the calls");
        Sumlarder s = new Sumlarder();
        s.learn(0, 0, 20, 20);
        Checks.asks("isKept", s, () -> s.isKept(0, 0, 20, 20, 2), true);
        Checks.asks("worthOr", s, () -> s.worthOr(0, 0, 20, 20, -9), 627);
        Checks.asks("worthOr told -9", s, () -> s.worthOr(0, 0, 20, 19, -9), -9);
        Checks.asks("confirm", s, () -> s.confirm(0, 0, 20, 20, 627), true);
        Checks.asks("about", s, () -> s.about(0, 0), 1);
        Checks.asks("has", s, () -> s.has(0, 627), true);
        Checks.asks("count", s, () -> s.count(0, 0, 0), 1);
        Checks.asks("isSame", s, () -> s.isSame(0, 1), false);
        Checks.asks("walk", s, () -> s.walk(0, 20, 20), 627);
        Checks.asks("product", s, () -> s.product(0, 20, 20), 627);
        Checks.asks("ledger", s, () -> s.ledger(0, 0), 0);
        Checks.asks("ruleWorth", s, () -> s.ruleWorth(0, 20, 0), -1);
        Checks.asks("times", s, () -> s.times(0, 20), 0);
        Checks.asks("way", s, () -> s.way(0, 0), 0);
        Checks.asks("wayText", s, () -> s.wayText(0), "");
        Checks.asks("isOf", s, () -> s.isOf(0, 7, 0), true);
        Checks.asks("isSameWay", s, () -> s.isSameWay(), true);
        Checks.asks("tally", s, () -> s.tally(0), 1);
        Checks.asks("isSound", s, () -> s.isSound(0), true);
        long before = s.digest();
        Checks.asks("digest", s, () -> s.digest(), before);
        s.knock();
        Checks.due("knock", s.tally(0), 1);
    }

    private static void undoneIsNoAct() {
        Checks.sentence("6", "one that told -9 or threw is none. -9 is told where a call is let,"
                + " but cannot be done, as told there; only the count of these goes up then.");
        Sumlarder s = new Sumlarder();
        s.addPart(1, 2, 2);
        Checks.undone("learn", s, () -> s.learn(0, 0, 0, 0));
        Checks.undone("relearn", s, () -> s.relearn(0, 0, 20, 20));
        Checks.undone("forget", s, () -> s.forget(0, 0, 20, 20));
        Checks.undone("pour", s, () -> s.pour(2, 2));
        Checks.undone("forgetRule", s, () -> s.forgetRule(0, 20));
        Checks.undone("addPart", s, () -> s.addPart(0, 20, 2));
        Checks.undone("takePart", s, () -> s.takePart(0, 20));
        Checks.undone("next", s, () -> s.next(0));
        Checks.undone("toUnlike", s, () -> s.toUnlike(1));
        Checks.undone("toOdd", s, () -> s.toOdd(1));
        Checks.due("acts", s.tally(0), 1);
    }

    private static void undoneIsCounted() {
        Checks.sentence("Promise 40", "4 how often -9 was told for what could not be done");
        Sumlarder s = new Sumlarder();
        for (int times = 1; times <= 200; times++) {
            s.forget(times % 3, 0, 20, 20);
            Checks.due("told", s.tally(4), times);
        }
        Checks.due("a fallback is none of these", s.worthOr(0, 0, 20, 20, -9), -9);
        Checks.due("told", s.tally(4), 200);
    }

    private static void thrownChangesNothing() {
        Checks.sentence("6", "A method that throws an exception changes nothing.");
        Sumlarder s = new Sumlarder();
        s.know(0, 0, 20, 20);
        s.rule(0, 20);
        s.addPart(0, 2, 10);
        Checks.illegal("know", s, () -> s.know(0, 0, 20, 21));
        Checks.illegal("few", s, () -> s.few(0, 20, 21));
        Checks.illegal("few", s, () -> s.few(0, 21, 20));
        Checks.illegal("surplus", s, () -> s.surplus(0, 21));
        Checks.outOfBounds("place", s, () -> s.place(1, 2));
        Checks.outOfBounds("copy", s, () -> s.copy(1, 3));
        Checks.outOfBounds("copy", s, () -> s.copy(3, 0));
        Checks.outOfBounds("pour", s, () -> s.pour(0, 3));
        Checks.illegal("forgetAll", s, () -> s.forgetAll(0, 4, 0));
        Checks.outOfBounds("clear", s, () -> s.clear(3));
        Checks.illegal("rule", s, () -> s.rule(1, 21));
        Checks.illegal("forgetRule", s, () -> s.forgetRule(0, -1));
        Checks.illegal("addPart", s, () -> s.addPart(1, 21, 1));
        Checks.illegal("layFirst", s, () -> s.layFirst(0, 21));
        Checks.outOfBounds("copyDesk", s, () -> s.copyDesk(2));
        Checks.illegal("tally", s, () -> s.tally(6));
    }

    private static void firstNamedException() {
        Checks.sentence("6", "If several exceptions apply, the one that is named first is thrown");
        Sumlarder s = new Sumlarder();
        for (int bad : new int[] {MIN, -1, 3, MAX}) {
            Checks.outOfBounds("know", s, () -> s.know(bad, 6, 21, -1));
            Checks.outOfBounds("few", s, () -> s.few(bad, 21, -1));
            Checks.outOfBounds("surplus", s, () -> s.surplus(bad, 21));
            Checks.outOfBounds("learn", s, () -> s.learn(bad, -1, 21, 21));
            Checks.outOfBounds("relearn", s, () -> s.relearn(bad, -1, 21, 21));
            Checks.outOfBounds("forget", s, () -> s.forget(bad, -1, 21, 21));
            Checks.outOfBounds("forgetIf", s, () -> s.forgetIf(bad, 6, -1, -1, 0));
            Checks.outOfBounds("forgetAll", s, () -> s.forgetAll(bad, 4, 0));
            Checks.outOfBounds("isKept", s, () -> s.isKept(bad, 6, -1, -1, 3));
            Checks.outOfBounds("worthOr", s, () -> s.worthOr(bad, 6, -1, -1, 0));
            Checks.outOfBounds("confirm", s, () -> s.confirm(bad, 6, -1, -1, 0));
            Checks.outOfBounds("about", s, () -> s.about(bad, 4));
            Checks.outOfBounds("count", s, () -> s.count(bad, -1, 0));
            Checks.outOfBounds("rule", s, () -> s.rule(bad, 21));
            Checks.outOfBounds("forgetRule", s, () -> s.forgetRule(bad, 21));
            Checks.outOfBounds("ledger", s, () -> s.ledger(bad, 2));
            Checks.outOfBounds("ruleWorth", s, () -> s.ruleWorth(bad, 21, 2));
            Checks.outOfBounds("addPart", s, () -> s.addPart(bad, 0, 0));
            Checks.outOfBounds("takePart", s, () -> s.takePart(bad, 0));
            Checks.outOfBounds("layFirst", s, () -> s.layFirst(bad, 21));
            Checks.outOfBounds("times", s, () -> s.times(bad, 21));
            Checks.outOfBounds("way", s, () -> s.way(bad, 3));
            Checks.outOfBounds("isOf", s, () -> s.isOf(bad, 8, 21));
        }
    }

    private static void exceptionsAheadOfUndone() {
        Checks.sentence("6", "exceptions go ahead of -9.");
        Sumlarder s = new Sumlarder();
        Checks.outOfBounds("learn", s, () -> s.learn(3, 0, 0, 0));
        Checks.illegal("learn", s, () -> s.learn(0, 6, 0, 0));
        Checks.illegal("learn", s, () -> s.learn(0, 0, 0, 21));
        Checks.illegal("learn", s, () -> s.learn(0, 0, -1, 0));
        Checks.outOfBounds("relearn", s, () -> s.relearn(3, 0, 1, 1));
        Checks.illegal("relearn", s, () -> s.relearn(0, 0, 1, 21));
        Checks.outOfBounds("forget", s, () -> s.forget(-1, 0, 1, 1));
        Checks.illegal("forget", s, () -> s.forget(0, 6, 1, 1));
        Checks.outOfBounds("pour", s, () -> s.pour(3, 3));
        Checks.outOfBounds("forgetRule", s, () -> s.forgetRule(3, 1));
        Checks.illegal("forgetRule", s, () -> s.forgetRule(0, 21));
        Checks.outOfBounds("addPart", s, () -> s.addPart(2, 20, 2));
        Checks.illegal("addPart", s, () -> s.addPart(0, 21, 20));
        Checks.illegal("addPart", s, () -> s.addPart(0, 20, 21));
        Checks.outOfBounds("takePart", s, () -> s.takePart(2, 1));
        Checks.illegal("takePart", s, () -> s.takePart(0, 21));
        Checks.outOfBounds("next", s, () -> s.next(2));
        s.addPart(0, 2, 2);
        s.addPart(1, 2, 2);
        Checks.outOfBounds("toUnlike", s, () -> s.toUnlike(2));
        Checks.outOfBounds("toOdd", s, () -> s.toOdd(2));
        Checks.due("told -9", s.tally(4), 0);
    }

    private static void tally() {
        Checks.sentence("Promise 40", "Returns 0 how many ACTS were done, 1 WANTED, 2 MADE, 3"
                + " FOUND, 4 how often -9 was told for what could not be done, 5 how often one"
                + " knocked.");
        Sumlarder s = new Sumlarder();
        for (int what = 0; what <= 5; what++) {
            int w = what;
            Checks.asks("at first", s, () -> s.tally(w), 0);
        }
        s.know(0, 0, 20, 20);
        s.next(0);
        s.next(1);
        for (int times = 1; times <= 4; times++) {
            s.knock();
        }
        int[] due = {1, 300, 210, 90, 2, 4};
        for (int what = 0; what <= 5; what++) {
            int w = what;
            Checks.asks("tally " + w, s, () -> s.tally(w), due[w]);
        }
    }

    private static void knock() {
        Checks.sentence("Promise 41", "Returns how often one knocked, with this.");
        Sumlarder s = new Sumlarder();
        Checks.due("the first", s.knock(), 1);
        long before = s.digest();
        Checks.due("the second", s.knock(), 2);
        Checks.due("nothing else goes up", s.digest(), before + 1);
    }

    private static void isSound() {
        Checks.sentence("Promise 42", "what the memory keeps has the WORTH that the SERIES tells;"
                + " none that RESTS is kept; as many are kept as are told; WANTED is MADE and FOUND"
                + " together.");
        Sumlarder s = new Sumlarder();
        for (int memory = 0; memory <= 2; memory++) {
            int m = memory;
            Checks.asks("empty", s, () -> s.isSound(m), true);
        }
        for (int kind = 0; kind <= 5; kind++) {
            s.know(0, kind, 20, 20);
            s.know(0, kind, 0, 0);
            s.learn(1, kind, 20, 20);
            s.learn(1, kind, 0, 20);
            s.relearn(0, kind, 20, 20);
        }
        s.rule(0, 20);
        s.rule(0, 20);
        s.forget(0, 0, 20, 20);
        s.forgetAll(0, 3, 1);
        s.copy(0, 2);
        s.pour(1, 2);
        for (int memory = 0; memory <= 2; memory++) {
            int m = memory;
            Checks.asks("used", s, () -> s.isSound(m), true);
            Checks.due("WANTED", s.tally(1), s.tally(2) + s.tally(3));
        }
    }

    private static void isSoundWhenFull() {
        Checks.sentence("Promise 42", "Returns whether this is so");
        Twins full = new Twins("isSound of a full memory");
        full.fillMemory(1);
        for (int memory = 0; memory <= 2; memory++) {
            Checks.due("memory " + memory, full.call("isSound", memory), true);
        }
        full.call("clear", 1);
        Checks.due("empty again", full.call("isSound", 1), true);
    }

    private static void digestWraps() {
        Checks.sentence("Promise 43", "A number d starts with 7978; then d becomes d * 31 + v,"
                + " which wraps around as a 64-bit integer");
        Sumlarder s = new Sumlarder();
        // 62 numbers, all of them 0
        BigInteger unwrapped = BigInteger.valueOf(7978).multiply(BigInteger.valueOf(31).pow(62));
        Checks.due("it does not fit", unwrapped.bitLength() > 64, true);
        Checks.due("new", s.digest(), unwrapped.longValue());
        s.knock();
        Checks.due("knocked", s.digest(), unwrapped.add(BigInteger.ONE).longValue());
    }

    private static void digestOrder() {
        Checks.sentence("Promise 43", "memory by memory about() of 0 and 1; ledger by ledger"
                + " ledger() of 0 and 1; desk by desk way() of 0 and 1, and times() of the parts 1"
                + " to 20; tally() of 0 to 5.");
        Sumlarder s = new Sumlarder();
        s.know(0, 0, 20, 20);
        s.learn(1, 5, 20, 20);
        s.few(2, 20, 3);
        s.rule(0, 3);
        s.rule(1, 20);
        s.rule(2, 7);
        s.addPart(0, 1, 7);
        s.addPart(0, 13, 1);
        s.addPart(1, 20, 1);
        s.next(1);
        s.next(1);
        s.pour(1, 1);
        s.knock();
        BigInteger d = BigInteger.valueOf(7978);
        for (int at = 0; at < 12; at++) {
            int one = at % 6 / 2;
            d = then(d, at < 6 ? s.about(one, at % 2) : s.ledger(one, at % 2));
        }
        for (int desk = 0; desk <= 1; desk++) {
            d = then(then(d, s.way(desk, 0)), s.way(desk, 1));
            for (int part = 1; part <= 20; part++) {
                d = then(d, s.times(desk, part));
            }
        }
        for (int what = 0; what <= 5; what++) {
            d = then(d, s.tally(what));
        }
        Checks.due("digest", s.digest(), d.longValue());
        Checks.due("again", s.digest(), d.longValue());
    }

    private static BigInteger then(BigInteger d, int v) {
        return d.multiply(BigInteger.valueOf(31)).add(BigInteger.valueOf(v));
    }
}
