/** Section 5 and promises 27 to 39: each sentence that names an edge of the desks. */
public final class EdgesOfDesksTest {
    private static final String TWENTY_ONES = "1+1+1+1+1+1+1+1+1+1+1+1+1+1+1+1+1+1+1+1";

    public static void main(String[] args) {
        emptyAtFirst();
        addPart();
        addPartToAFullOne();
        takePart();
        layFirst();
        next();
        turn();
        toUnlike();
        toUnlikeByPowers();
        toOdd();
        toOddByPowers();
        copyDesk();
        times();
        way();
        wayText();
        isOf();
        isSameWay();
        Checks.finish("EdgesOfDesksTest");
    }

    private static Sumlarder laid(int... parts) {
        Sumlarder s = new Sumlarder();
        for (int part : parts) {
            s.addPart(0, part, 1);
        }
        return s;
    }

    private static Sumlarder laidTimes(int part, int times) {
        Sumlarder s = new Sumlarder();
        s.addPart(0, part, times);
        return s;
    }

    private static void emptyAtFirst() {
        Checks.sentence("5", "There are two desks, 0 and 1; on each lies one WAY, at first that"
                + " without parts.");
        for (int desk = 0; desk <= 1; desk++) {
            Sumlarder s = new Sumlarder();
            int d = desk;
            Checks.asks("text", s, () -> s.wayText(d), "");
            for (int which = 0; which <= 2; which++) {
                int w = which;
                Checks.asks("way", s, () -> s.way(d, w), 0);
            }
            for (int part = 1; part <= 20; part++) {
                int p = part;
                Checks.asks("times", s, () -> s.times(d, p), 0);
            }
            Checks.idleAct("turn", s, () -> s.turn(d), 0);
            Checks.idleAct("copyDesk", s, () -> s.copyDesk(d), 0);
            Checks.undone("next", s, () -> s.next(d));
        }
        Sumlarder s = new Sumlarder();
        s.addPart(1, 20, 1);
        Checks.due("each has its own", s.wayText(0), "");
    }

    private static void addPart() {
        Checks.sentence("Promise 27", "Returns how often it stands there then; -9 if the NUMBER of"
                + " the WAY would be above 20.");
        for (int part = 1; part <= 20; part++) {
            int p = part;
            int most = 20 / part;
            Sumlarder s = new Sumlarder();
            if (most < 20) {
                Checks.undone("once too often", s, () -> s.addPart(0, p, most + 1));
                Checks.undone("far too often", s, () -> s.addPart(0, p, 20));
            }
            Checks.act("as often as can be", s, () -> s.addPart(0, p, most), most);
            Checks.due("text", s.way(0, 0), most * p);
            Checks.undone("once more", s, () -> s.addPart(0, p, 1));
            Sumlarder t = new Sumlarder();
            for (int times = 1; times <= most; times++) {
                int due = times;
                Checks.act("one by one", t, () -> t.addPart(1, p, 1), due);
            }
            Checks.undone("one more", t, () -> t.addPart(1, p, 1));
            if (20 - most * p > 0) {
                Checks.undone("above 20", t, () -> t.addPart(1, 20 - most * p + 1, 1));
                Checks.act("just 20", t, () -> t.addPart(1, 20 - most * p, 1), 1);
            }
        }
    }

    private static void addPartToAFullOne() {
        Checks.sentence("Promise 27", "-9 if the NUMBER of the WAY would be above 20.");
        for (int part = 1; part <= 20; part++) {
            Sumlarder s = laid(7, 7, 6);
            int p = part;
            Checks.undone("full", s, () -> s.addPart(0, p, 1));
            Checks.undone("full", s, () -> s.addPart(0, p, 20));
        }
        Sumlarder s = laidTimes(20, 1);
        Checks.illegal("exceptions go ahead", s, () -> s.addPart(0, 21, 1));
        Checks.illegal("exceptions go ahead", s, () -> s.addPart(0, 20, 21));
        Checks.illegal("exceptions go ahead", s, () -> s.addPart(0, 0, 20));
        Checks.illegal("exceptions go ahead", s, () -> s.addPart(0, 20, 0));
        Checks.outOfBounds("exceptions go ahead", s, () -> s.addPart(2, 20, 20));
        Checks.act("the other desk is not full", s, () -> s.addPart(1, 20, 1), 1);
    }

    private static void takePart() {
        Checks.sentence("Promise 28", "Returns how often it stands there then; -9 if it does not"
                + " stand there.");
        for (int part = 1; part <= 20; part++) {
            Sumlarder s = new Sumlarder();
            int p = part;
            Checks.undone("of none", s, () -> s.takePart(0, p));
            s.addPart(0, p, 1);
            Checks.undone("stands on the other desk", s, () -> s.takePart(1, p));
            Checks.undone("another part", s, () -> s.takePart(0, p % 20 + 1));
            Checks.act("the last one", s, () -> s.takePart(0, p), 0);
            Checks.due("without parts", s.wayText(0), "");
            Checks.undone("no more", s, () -> s.takePart(0, p));
        }
        Sumlarder s = laidTimes(1, 20);
        for (int left = 19; left >= 0; left--) {
            int due = left;
            Checks.act("one by one", s, () -> s.takePart(0, 1), due);
        }
        Checks.undone("one more", s, () -> s.takePart(0, 1));
    }

    private static void layFirst() {
        Checks.sentence("Promise 29", "The first WAY of a NUMBER in ORDER comes to a desk; what was"
                + " there goes.");
        Sumlarder s = laidTimes(1, 20);
        Checks.act("greatest", s, () -> s.layFirst(0, 20), 1);
        Checks.due("greatest", s.wayText(0), "20");
        Checks.idleAct("again", s, () -> s.layFirst(0, 20), 1);
        Checks.act("smallest with a part", s, () -> s.layFirst(0, 1), 1);
        Checks.due("smallest with a part", s.wayText(0), "1");
        Checks.act("0", s, () -> s.layFirst(0, 0), 0);
        Checks.due("0", s.wayText(0), "");
        Checks.idleAct("0 again", s, () -> s.layFirst(0, 0), 0);
        Checks.idleAct("0 on the other", s, () -> s.layFirst(1, 0), 0);
    }

    private static void next() {
        Checks.sentence("Promise 30", "Returns how many parts it has; -9 if the WAY there is the"
                + " last one.");
        Sumlarder none = new Sumlarder();
        Checks.undone("of 0", none, () -> none.next(0));
        Checks.undone("of 0", none, () -> none.next(1));
        for (int number = 1; number <= 20; number++) {
            Sumlarder s = laidTimes(1, number);
            Checks.undone("only 1", s, () -> s.next(0));
            Checks.due("stays", s.way(0, 1), number);
        }
        steps(2, "1+1", 2);
        steps(3, "2+1", 2);
        steps(20, "19+1", 2);
        Sumlarder s = laid(10, 10);
        Checks.act("one of two alike", s, () -> s.next(0), 3);
        Checks.due("one of two alike", s.wayText(0), "10+9+1");
        Sumlarder twos = laidTimes(2, 10);
        Checks.act("ten alike", twos, () -> twos.next(0), 11);
        Checks.due("ten alike", twos.wayText(0), "2+2+2+2+2+2+2+2+2+1+1");
        Sumlarder even = laid(4, 1, 1);
        Checks.act("nothing left over", even, () -> even.next(0), 2);
        Checks.due("nothing left over", even.wayText(0), "3+3");
        Sumlarder ones = laidTimes(1, 17);
        ones.addPart(0, 3, 1);
        Checks.act("all that follows", ones, () -> ones.next(0), 10);
        Checks.due("all that follows", ones.wayText(0), "2+2+2+2+2+2+2+2+2+2");
    }

    private static void steps(int number, String due, int parts) {
        Sumlarder s = new Sumlarder();
        s.layFirst(1, number);
        Checks.act("next of the first of " + number, s, () -> s.next(1), parts);
        Checks.due("next of the first of " + number, s.wayText(1), due);
    }

    private static void turn() {
        Checks.sentence("Promise 31", "Returns 1 if it is another one then, 0 if it is its own"
                + " TURNED.");
        Sumlarder none = new Sumlarder();
        Checks.idleAct("none", none, () -> none.turn(0), 0);
        Sumlarder one = laid(1);
        Checks.idleAct("1", one, () -> one.turn(0), 0);
        Sumlarder own = laid(6, 5, 3, 2, 2, 1);
        Checks.idleAct("6+5+3+2+2+1", own, () -> own.turn(0), 0);
        Sumlarder full = laidTimes(20, 1);
        Checks.act("20", full, () -> full.turn(0), 1);
        Checks.due("20", full.wayText(0), TWENTY_ONES);
        Checks.act("20 ones", full, () -> full.turn(0), 1);
        Checks.due("20 ones", full.wayText(0), "20");
        Checks.due("the other desk", full.wayText(1), "");
    }

    private static void toUnlike() {
        Checks.sentence("Promise 32", "Returns how many parts it has then; -9 if it is not ODD.");
        for (int part = 2; part <= 20; part += 2) {
            Sumlarder s = laid(part);
            Checks.undone("an even part", s, () -> s.toUnlike(0));
            if (part < 20) {
                s.addPart(0, 1, 20 - part);
                Checks.undone("an even part among odd ones", s, () -> s.toUnlike(0));
            }
        }
        Sumlarder s = new Sumlarder();
        Checks.idleAct("without parts", s, () -> s.toUnlike(0), 0);
        Checks.idleAct("without parts", s, () -> s.toUnlike(1), 0);
        Checks.outOfBounds("exceptions go ahead", s, () -> s.toUnlike(2));
        for (int part = 1; part <= 19; part += 2) {
            Sumlarder odd = laid(part);
            Checks.idleAct("one odd part", odd, () -> odd.toUnlike(0), 1);
        }
    }

    private static void toUnlikeByPowers() {
        Checks.sentence("Promise 32", "of each part that stands m times there, m is written as the"
                + " sum of unlike powers of two (1, 2, 4, ..); for each of these, w, a part of w"
                + " times that part stands in the new WAY.");
        String[] due = {
            "1", "2", "2+1", "4", "4+1", "4+2", "4+2+1", "8", "8+1", "8+2", "8+2+1", "8+4",
            "8+4+1", "8+4+2", "8+4+2+1", "16", "16+1", "16+2", "16+2+1", "16+4"
        };
        for (int times = 1; times <= 20; times++) {
            Sumlarder s = laidTimes(1, times);
            String want = due[times - 1];
            Checks.act(times + " times 1", s, () -> s.toUnlike(0), want.split("[+]").length);
            Checks.due(times + " times 1", s.wayText(0), want);
        }
        Sumlarder s = laidTimes(3, 6);
        Checks.act("6 times 3", s, () -> s.toUnlike(0), 2);
        Checks.due("6 times 3", s.wayText(0), "12+6");
        Sumlarder t = laid(5, 5, 5, 1, 1, 1, 1, 1);
        Checks.act("3 times 5, 5 times 1", t, () -> t.toUnlike(0), 4);
        Checks.due("3 times 5, 5 times 1", t.wayText(0), "10+5+4+1");
    }

    private static void toOdd() {
        Checks.sentence("Promise 33", "Returns how many parts it has then; -9 if it is not"
                + " UNLIKE.");
        for (int part = 1; part <= 10; part++) {
            Sumlarder s = laid(part, part);
            Checks.undone("two alike", s, () -> s.toOdd(0));
            if (part < 10) {
                s.addPart(0, 20 - 2 * part, 1);
                Checks.undone("two alike and another", s, () -> s.toOdd(0));
            }
        }
        Sumlarder ones = laidTimes(1, 20);
        Checks.undone("20 alike", ones, () -> ones.toOdd(0));
        Sumlarder s = new Sumlarder();
        Checks.idleAct("without parts", s, () -> s.toOdd(0), 0);
        Checks.idleAct("without parts", s, () -> s.toOdd(1), 0);
        Checks.outOfBounds("exceptions go ahead", s, () -> s.toOdd(-1));
    }

    private static void toOddByPowers() {
        Checks.sentence("Promise 33", "for each part, w being the greatest power of two that"
                + " divides it, the part divided by w stands w times in the new WAY.");
        int[] powers = {1, 2, 1, 4, 1, 2, 1, 8, 1, 2, 1, 4, 1, 2, 1, 16, 1, 2, 1, 4};
        for (int part = 1; part <= 20; part++) {
            Sumlarder s = laid(part);
            int w = powers[part - 1];
            Checks.act("part " + part, s, () -> s.toOdd(0), w);
            Checks.due("part " + part, s.times(0, part / w), w);
            Checks.due("nothing else", s.way(0, 0), part);
        }
        Sumlarder s = laid(8, 6, 4, 2);
        Checks.act("all even", s, () -> s.toOdd(0), 16);
        Checks.due("all even", s.wayText(0), "3+3+1+1+1+1+1+1+1+1+1+1+1+1+1+1");
        Sumlarder t = laid(6, 3, 2, 1);
        Checks.act("what comes together", t, () -> t.toOdd(0), 6);
        Checks.due("what comes together", t.wayText(0), "3+3+3+1+1+1");
    }

    private static void copyDesk() {
        Checks.sentence("Promise 34", "What is on a desk comes to the other desk, too; then each"
                + " goes its own way.");
        Sumlarder s = laid(20);
        Checks.act("full onto empty", s, () -> s.copyDesk(0), 1);
        Checks.idleAct("again", s, () -> s.copyDesk(0), 1);
        Checks.idleAct("back", s, () -> s.copyDesk(1), 1);
        s.takePart(0, 20);
        Checks.due("its own way", s.wayText(1), "20");
        Checks.act("empty onto full", s, () -> s.copyDesk(0), 0);
        Checks.due("empty onto full", s.wayText(1), "");
        s.addPart(1, 1, 20);
        Checks.due("its own way", s.wayText(0), "");
        Checks.act("from 1 to 0", s, () -> s.copyDesk(1), 1);
        Checks.due("from 1 to 0", s.wayText(0), TWENTY_ONES);
        Checks.sentence("Promise 34", "Returns how many different parts it has (each counts"
                + " once).");
        Sumlarder t = laid(6, 5, 4, 3, 2);
        Checks.act("all different", t, () -> t.copyDesk(0), 5);
        Sumlarder u = laid(5, 5, 4, 4, 2);
        Checks.act("some alike", u, () -> u.copyDesk(0), 3);
        Sumlarder v = laid(19, 1);
        Checks.act("the ends", v, () -> v.copyDesk(0), 2);
    }

    private static void times() {
        Checks.sentence("Promise 35", "Returns how often the part stands in the WAY.");
        for (int part = 1; part <= 20; part++) {
            Sumlarder s = new Sumlarder();
            int p = part;
            int most = 20 / part;
            s.addPart(1, p, most);
            for (int other = 1; other <= 20; other++) {
                int o = other;
                Checks.asks("times", s, () -> s.times(1, o), o == p ? most : 0);
            }
            Checks.asks("empty desk", s, () -> s.times(0, p), 0);
        }
    }

    private static void way() {
        Checks.sentence("Promise 36", "Returns 0 the NUMBER of the WAY, 1 how many parts it has, 2"
                + " how many different ones (each once).");
        ways(new Sumlarder(), 0, 0, 0);
        ways(laid(1), 1, 1, 1);
        ways(laid(20), 20, 1, 1);
        ways(laidTimes(1, 20), 20, 20, 1);
        ways(laid(10, 10), 20, 2, 1);
        ways(laid(19, 1), 20, 2, 2);
        ways(laid(6, 5, 4, 3, 2), 20, 5, 5);
    }

    private static void ways(Sumlarder s, int number, int parts, int different) {
        Checks.asks("number", s, () -> s.way(0, 0), number);
        Checks.asks("parts", s, () -> s.way(0, 1), parts);
        Checks.asks("different", s, () -> s.way(0, 2), different);
    }

    private static void wayText() {
        Checks.sentence("Promise 37", "Returns its parts as decimal numbers, in its order, with"
                + " \"+\" between; \"\" without parts.");
        Sumlarder s = new Sumlarder();
        Checks.asks("without parts", s, () -> s.wayText(1), "");
        for (int part = 1; part <= 20; part++) {
            Sumlarder one = laid(part);
            String due = "" + part;
            Checks.asks("one part", one, () -> one.wayText(0), due);
        }
        Sumlarder full = laidTimes(1, 20);
        Checks.asks("20 parts", full, () -> full.wayText(0), TWENTY_ONES);
        Sumlarder two = laid(1, 10, 9);
        Checks.asks("two digits", two, () -> two.wayText(0), "10+9+1");
        two.layFirst(0, 0);
        Checks.asks("without parts again", two, () -> two.wayText(0), "");
    }

    private static void isOf() {
        Checks.sentence("Promise 38", "Returns whether it is of the KIND with the MEASURE.");
        Sumlarder none = new Sumlarder();
        Sumlarder ones = laidTimes(1, 20);
        Sumlarder twenty = laid(20);
        for (int kind = 0; kind <= 7; kind++) {
            int k = kind;
            Checks.asks("none, 0", none, () -> none.isOf(0, k, 0), true);
            Checks.asks("none, 1", none, () -> none.isOf(0, k, 1), k != 1 && k != 5);
            Checks.asks("none, 20", none, () -> none.isOf(0, k, 20), k != 1 && k != 5);
            Checks.asks("20 ones, 0", ones, () -> ones.isOf(0, k, 0), false);
            Checks.asks("20 ones, 1", ones, () -> ones.isOf(0, k, 1), k == 0 || k == 3);
            Checks.asks("20 ones, 19", ones, () -> ones.isOf(0, k, 19), k == 0 || k == 3);
            Checks.asks("20 ones, 20", ones, () -> ones.isOf(0, k, 20),
                    k == 0 || k == 1 || k == 3 || k == 6);
            Checks.asks("20, 0", twenty, () -> twenty.isOf(0, k, 0), false);
            Checks.asks("20, 1", twenty, () -> twenty.isOf(0, k, 1), k == 1 || k == 5 || k == 6);
            Checks.asks("20, 19", twenty, () -> twenty.isOf(0, k, 19), k == 6);
            Checks.asks("20, 20", twenty, () -> twenty.isOf(0, k, 20),
                    k == 0 || k == 2 || k == 6);
        }
    }

    private static void isSameWay() {
        Checks.sentence("Promise 39", "Returns whether on both desks is the same WAY.");
        Sumlarder s = new Sumlarder();
        Checks.asks("both empty", s, () -> s.isSameWay(), true);
        for (int part = 1; part <= 20; part++) {
            Sumlarder one = laid(part);
            Checks.asks("one empty", one, () -> one.isSameWay(), false);
            one.addPart(1, part, 1);
            Checks.asks("both one part", one, () -> one.isSameWay(), true);
            Sumlarder other = new Sumlarder();
            other.addPart(1, part, 1);
            Checks.asks("the other empty", other, () -> other.isSameWay(), false);
        }
        Sumlarder full = laid(20);
        full.addPart(1, 1, 20);
        Checks.asks("both full", full, () -> full.isSameWay(), false);
        full.turn(0);
        Checks.asks("both full of 1", full, () -> full.isSameWay(), true);
    }
}
