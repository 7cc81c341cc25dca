import java.util.List;

/** Promises 27 to 39: the desks. */
public final class DesksTest {
    public static void main(String[] args) {
        addPart();
        takePart();
        layFirst();
        next();
        turn();
        toUnlike();
        toOdd();
        thereAndBack();
        copyDesk();
        times();
        way();
        wayText();
        isOf();
        isSameWay();
        Checks.finish("DesksTest");
    }

    private static Sumlarder laid(int... parts) {
        Sumlarder s = new Sumlarder();
        for (int part : parts) {
            s.addPart(0, part, 1);
        }
        return s;
    }

    private static Sumlarder laid(String text) {
        Sumlarder s = new Sumlarder();
        for (String part : text.split("[+]")) {
            if (!part.isEmpty()) {
                s.addPart(0, Integer.parseInt(part), 1);
            }
        }
        return s;
    }

    private static void addPart() {
        Sumlarder s = new Sumlarder();
        Checks.act("addPart", s, () -> s.addPart(0, 3, 2), 2);
        Checks.act("addPart again", s, () -> s.addPart(0, 3, 1), 3);
        Checks.act("addPart greater", s, () -> s.addPart(0, 5, 1), 1);
        Checks.due("added", s.wayText(0), "5+3+3+3");
        Checks.due("the other desk", s.wayText(1), "");
        Checks.undone("addPart above 20", s, () -> s.addPart(0, 7, 1));
        Checks.undone("addPart above 20", s, () -> s.addPart(0, 1, 7));
        Checks.undone("addPart far above 20", s, () -> s.addPart(0, 20, 20));
        Checks.act("addPart to 20", s, () -> s.addPart(0, 6, 1), 1);
        Checks.undone("addPart to 21", s, () -> s.addPart(0, 1, 1));
        Checks.act("addPart 20", s, () -> s.addPart(1, 20, 1), 1);
        Sumlarder t = new Sumlarder();
        Checks.act("addPart 1", t, () -> t.addPart(1, 1, 20), 20);
        Checks.undone("addPart 21", t, () -> t.addPart(1, 1, 1));
    }

    private static void takePart() {
        Sumlarder s = laid(5, 3, 3);
        Checks.act("takePart", s, () -> s.takePart(0, 3), 1);
        Checks.due("taken", s.wayText(0), "5+3");
        Checks.act("takePart", s, () -> s.takePart(0, 3), 0);
        Checks.undone("takePart of none", s, () -> s.takePart(0, 3));
        Checks.undone("takePart of none", s, () -> s.takePart(1, 5));
        Checks.act("takePart", s, () -> s.takePart(0, 5), 0);
        Checks.due("all taken", s.wayText(0), "");
        s.layFirst(0, 20);
        Checks.act("takePart 20", s, () -> s.takePart(0, 20), 0);
        Checks.undone("takePart 20", s, () -> s.takePart(0, 20));
        s.addPart(1, 1, 2);
        Checks.act("takePart 1", s, () -> s.takePart(1, 1), 1);
        Checks.act("takePart 1", s, () -> s.takePart(1, 1), 0);
        Checks.undone("takePart 1", s, () -> s.takePart(1, 1));
    }

    private static void layFirst() {
        Sumlarder s = laid(5, 3, 3);
        Checks.act("layFirst", s, () -> s.layFirst(0, 20), 1);
        Checks.due("laid", s.wayText(0), "20");
        Checks.act("layFirst", s, () -> s.layFirst(0, 1), 1);
        Checks.due("laid", s.wayText(0), "1");
        Checks.act("layFirst", s, () -> s.layFirst(1, 4), 1);
        Checks.due("laid", s.wayText(1), "4");
        Checks.act("layFirst 0", s, () -> s.layFirst(0, 0), 0);
        Checks.due("laid", s.wayText(0), "");
    }

    private static void next() {
        for (int number = 0; number <= 20; number++) {
            List<List<Integer>> all = Reference.ways(number);
            Sumlarder s = new Sumlarder();
            s.layFirst(1, number);
            for (int at = 1; at < all.size(); at++) {
                Sumlarder from = s;
                Checks.act("next", s, () -> from.next(1), all.get(at).size());
                Checks.due("next", s.wayText(1), text(all.get(at)));
                // no object is asked more often than the document promises
                if (at % 50 == 0) {
                    s = laid(text(all.get(at)));
                    s.copyDesk(0);
                }
            }
            Sumlarder last = s;
            Checks.undone("next of the last", s, () -> last.next(1));
            Checks.undone("next of the last", s, () -> last.next(1));
        }
        Sumlarder s = laid(4, 3, 1, 1);
        Checks.act("next", s, () -> s.next(0), 4);
        Checks.due("next", s.wayText(0), "4+2+2+1");
    }

    private static String text(List<Integer> way) {
        return String.join("+", way.stream().map(String::valueOf).toList());
    }

    private static void turn() {
        Sumlarder s = laid(7, 4, 3, 1, 1);
        Checks.act("turn", s, () -> s.turn(0), 1);
        Checks.due("turned", s.wayText(0), "5+3+3+2+1+1+1");
        Checks.act("turn back", s, () -> s.turn(0), 1);
        Checks.due("turned back", s.wayText(0), "7+4+3+1+1");
        Sumlarder own = laid(4, 3, 2, 1);
        Checks.act("turn its own", own, () -> own.turn(0), 0);
        Checks.due("turned its own", own.wayText(0), "4+3+2+1");
        Checks.act("turn none", own, () -> own.turn(1), 0);
        Checks.due("turned none", own.wayText(1), "");
        Sumlarder one = laid(20);
        Checks.act("turn 20", one, () -> one.turn(0), 1);
        Checks.due("turned 20", one.times(0, 1), 20);
    }

    private static void toUnlike() {
        Sumlarder s = laid(7, 3, 3, 3, 1, 1, 1, 1);
        Checks.act("toUnlike", s, () -> s.toUnlike(0), 4);
        Checks.due("made unlike", s.wayText(0), "7+6+4+3");
        Checks.undone("toUnlike, not odd", s, () -> s.toUnlike(0));
        Checks.act("toUnlike of none", s, () -> s.toUnlike(1), 0);
        Sumlarder odd = laid(9, 7, 3, 1);
        Checks.act("toUnlike of unlike", odd, () -> odd.toUnlike(0), 4);
        Checks.due("stays", odd.wayText(0), "9+7+3+1");
        Sumlarder even = laid(20);
        Checks.undone("toUnlike of 20", even, () -> even.toUnlike(0));
        Sumlarder mixed = laid(3, 2, 1);
        Checks.undone("toUnlike of 3+2+1", mixed, () -> mixed.toUnlike(0));
        Sumlarder ones = new Sumlarder();
        ones.addPart(1, 1, 19);
        Checks.act("toUnlike of ones", ones, () -> ones.toUnlike(1), 3);
        Checks.due("ones", ones.wayText(1), "16+2+1");
    }

    private static void toOdd() {
        Sumlarder s = laid(7, 6, 4, 3);
        Checks.act("toOdd", s, () -> s.toOdd(0), 8);
        Checks.due("made odd", s.wayText(0), "7+3+3+3+1+1+1+1");
        Checks.undone("toOdd, not unlike", s, () -> s.toOdd(0));
        Checks.act("toOdd of none", s, () -> s.toOdd(1), 0);
        Sumlarder odd = laid(9, 7, 3, 1);
        Checks.act("toOdd of odd", odd, () -> odd.toOdd(0), 4);
        Checks.due("stays", odd.wayText(0), "9+7+3+1");
        Sumlarder even = laid(16, 4);
        Checks.act("toOdd of 16+4", even, () -> even.toOdd(0), 20);
        Sumlarder twice = laid(6, 6);
        Checks.undone("toOdd of 6+6", twice, () -> twice.toOdd(0));
        Sumlarder twenty = laid(20);
        Checks.act("toOdd of 20", twenty, () -> twenty.toOdd(0), 4);
        Checks.due("twenty", twenty.wayText(0), "5+5+5+5");
    }

    /** Each odd way comes back from its unlike one. */
    private static void thereAndBack() {
        for (int number = 0; number <= 20; number++) {
            for (List<Integer> way : Reference.ways(number)) {
                if (way.stream().allMatch(part -> part % 2 == 1)) {
                    Sumlarder s = laid(way.stream().mapToInt(part -> part).toArray());
                    s.copyDesk(0);
                    s.toUnlike(1);
                    Checks.due("unlike " + way, s.isOf(1, 2, 20), true);
                    Checks.due("sum of " + way, s.way(1, 0), number);
                    s.toOdd(1);
                    Checks.due("back at " + way, s.isSameWay(), true);
                }
            }
        }
    }

    private static void copyDesk() {
        Sumlarder s = laid(5, 3, 3);
        s.addPart(1, 8, 1);
        Checks.act("copyDesk", s, () -> s.copyDesk(0), 2);
        Checks.due("copied", s.wayText(1), "5+3+3");
        s.takePart(1, 5);
        Checks.due("each its own way", s.wayText(0), "5+3+3");
        s.addPart(0, 1, 1);
        Checks.due("each its own way", s.wayText(1), "3+3");
        Checks.act("copyDesk back", s, () -> s.copyDesk(1), 1);
        Checks.due("copied back", s.wayText(0), "3+3");
        s.layFirst(0, 0);
        Checks.act("copyDesk of none", s, () -> s.copyDesk(0), 0);
        Checks.due("copied none", s.wayText(1), "");
    }

    private static void times() {
        Sumlarder s = laid(5, 3, 3);
        s.layFirst(1, 20);
        Checks.asks("times", s, () -> s.times(0, 3), 2);
        Checks.asks("times", s, () -> s.times(0, 5), 1);
        Checks.asks("times", s, () -> s.times(0, 1), 0);
        Checks.asks("times", s, () -> s.times(0, 20), 0);
        Checks.asks("times", s, () -> s.times(1, 20), 1);
    }

    private static void way() {
        Sumlarder s = laid(5, 3, 3);
        Checks.asks("way 0", s, () -> s.way(0, 0), 11);
        Checks.asks("way 1", s, () -> s.way(0, 1), 3);
        Checks.asks("way 2", s, () -> s.way(0, 2), 2);
        for (int which = 0; which <= 2; which++) {
            int w = which;
            Checks.asks("way of none", s, () -> s.way(1, w), 0);
        }
        wayOf(laid(20), 20, 1, 1);
        wayOf(laid(19, 1), 20, 2, 2);
        wayOf(laid(1, 1, 1), 3, 3, 1);
    }

    private static void wayOf(Sumlarder s, int number, int parts, int different) {
        String text = s.wayText(0);
        Checks.asks(text + " way 0", s, () -> s.way(0, 0), number);
        Checks.asks(text + " way 1", s, () -> s.way(0, 1), parts);
        Checks.asks(text + " way 2", s, () -> s.way(0, 2), different);
        Checks.act(text + " copyDesk", s, () -> s.copyDesk(0), different);
    }

    private static void wayText() {
        Sumlarder s = laid(1, 3, 12, 3);
        Checks.asks("wayText", s, () -> s.wayText(0), "12+3+3+1");
        Checks.asks("wayText of none", s, () -> s.wayText(1), "");
        s.layFirst(1, 20);
        Checks.asks("wayText of one", s, () -> s.wayText(1), "20");
        s.turn(1);
        Checks.asks("wayText of ones", s, () -> s.wayText(1),
                "1+1+1+1+1+1+1+1+1+1+1+1+1+1+1+1+1+1+1+1");
    }

    private static void isOf() {
        kinds("4+3+2+1", new int[] {4, 4, 4, 99, 99, 4, 4, 4});
        kinds("5+3+3+1", new int[] {5, 4, 99, 5, 99, 99, 4, 99});
        kinds("5+3+1", new int[] {5, 3, 5, 5, 5, 3, 3, 99});
        kinds("5+1+1+1+1", new int[] {5, 5, 99, 5, 99, 99, 5, 5});
        kinds("", new int[] {0, 0, 0, 0, 0, 0, 0, 0});
    }

    /** least[kind] is the least measure that fits; of kinds 1 and 5 it is the only one. */
    private static void kinds(String text, int[] least) {
        for (int kind = 0; kind <= 7; kind++) {
            Sumlarder s = laid(text);
            for (int measure = 0; measure <= 20; measure++) {
                int k = kind;
                int m = measure;
                boolean exact = kind == 1 || kind == 5;
                boolean due = exact ? m == least[k] : m >= least[k];
                Checks.asks(text + " isOf " + k + " " + m, s, () -> s.isOf(0, k, m), due);
            }
        }
    }

    private static void isSameWay() {
        Sumlarder s = new Sumlarder();
        Checks.asks("isSameWay, none", s, () -> s.isSameWay(), true);
        s.layFirst(0, 5);
        Checks.asks("isSameWay not", s, () -> s.isSameWay(), false);
        s.layFirst(1, 5);
        Checks.asks("isSameWay", s, () -> s.isSameWay(), true);
        s.next(1);
        Checks.asks("the same number, not the same", s, () -> s.isSameWay(), false);
        s.layFirst(0, 20);
        s.layFirst(1, 0);
        Checks.asks("isSameWay not, 20", s, () -> s.isSameWay(), false);
        s.layFirst(0, 1);
        Checks.asks("isSameWay not, 1", s, () -> s.isSameWay(), false);
    }
}
