import java.util.Arrays;
import java.util.List;

/** Sections 1 and 2 of the document: each sentence that names an edge of ways, kinds, series. */
public final class EdgesOfWaysTest {
    private static final int[] ALL = {
        1, 1, 2, 3, 5, 7, 11, 15, 22, 30, 42, 56, 77, 101, 135, 176, 231, 297, 385, 490, 627
    };

    public static void main(String[] args) {
        numbers();
        wayOfNought();
        order();
        firstWay();
        lastWay();
        unlikeAndOdd();
        turned();
        kindsOfWays();
        kindsCounted();
        casesInMemories();
        codes();
        seriesStarts();
        seriesOftenAndOnce();
        seriesFactors();
        seriesOfSeven();
        seriesBelowNought();
        Checks.finish("EdgesOfWaysTest");
    }

    private static Sumlarder laid(int... parts) {
        Sumlarder s = new Sumlarder();
        for (int part : parts) {
            s.addPart(0, part, 1);
        }
        return s;
    }

    private static void numbers() {
        Checks.sentence("1", "A WAY of a NUMBER (0 to 20) is a row of parts, each a whole number"
                + " from 1 on, of which none is greater than the one just ahead of it, and whose"
                + " sum is that NUMBER");
        Sumlarder s = new Sumlarder();
        for (int number = 0; number <= 20; number++) {
            Checks.due("ways of " + number, s.walk(0, number, 20), ALL[number]);
        }
        Checks.due("none is greater than the one ahead", laid(1, 9, 2, 8).wayText(0), "9+8+2+1");
    }

    private static void wayOfNought() {
        Checks.sentence("1", "0 has one WAY, that without parts.");
        Sumlarder s = new Sumlarder();
        Checks.due("walk", s.walk(0, 0, 0), 1);
        Checks.due("walk", s.walk(0, 0, 20), 1);
        s.layFirst(0, 0);
        Checks.due("its text", s.wayText(0), "");
        Checks.undone("there is no next one", s, () -> s.next(0));
    }

    private static void order() {
        Checks.sentence("1", "of two WAYS of a NUMBER that one stands ahead which has the greater"
                + " part at the first place where they are unlike");
        List<String> due = Arrays.asList("6", "5+1", "4+2", "4+1+1", "3+3", "3+2+1", "3+1+1+1",
                "2+2+2", "2+2+1+1", "2+1+1+1+1", "1+1+1+1+1+1");
        Sumlarder s = new Sumlarder();
        s.layFirst(0, 6);
        for (int at = 0; at < due.size(); at++) {
            Checks.due("way " + at, s.wayText(0), due.get(at));
            Checks.due("place " + at, s.place(0, 0), at);
            s.next(0);
        }
    }

    private static void firstWay() {
        Checks.sentence("1", "the first WAY is that of one part (of 0: that without parts)");
        for (int number = 0; number <= 20; number++) {
            Sumlarder s = laid(2, 1, 1);
            int n = number;
            Checks.act("layFirst " + n, s, () -> s.layFirst(0, n), n == 0 ? 0 : 1);
            Checks.due("first of " + n, s.wayText(0), n == 0 ? "" : "" + n);
            Checks.due("its place", s.place(2, 0), 0);
        }
    }

    private static void lastWay() {
        Checks.sentence("1", "the last one has only parts of 1, or none.");
        for (int number = 0; number <= 20; number++) {
            Sumlarder s = new Sumlarder();
            if (number > 0) {
                s.addPart(1, 1, number);
            }
            Checks.due("place of the last of " + number, s.place(0, 1), ALL[number] - 1);
            Checks.undone("next of the last of " + number, s, () -> s.next(1));
            Checks.due("parts of 1", s.way(1, 0) == number && s.way(1, 1) == number, true);
        }
        for (int number = 2; number <= 20; number++) {
            Sumlarder s = laid(2);
            if (number > 2) {
                s.addPart(0, 1, number - 2);
            }
            int n = number;
            Checks.act("next of the last but one of " + n, s, () -> s.next(0), n);
            Checks.due("its parts of 1", s.times(0, 1), n);
        }
    }

    private static void unlikeAndOdd() {
        Checks.sentence("1", "A WAY is UNLIKE, if no two of its parts are alike; ODD, if all its"
                + " parts are odd (without parts it is both).");
        Checks.due("unlike", laid(20).isOf(0, 2, 20), true);
        Checks.due("unlike", laid(10, 9, 1).isOf(0, 2, 20), true);
        Checks.due("not unlike", laid(10, 10).isOf(0, 2, 20), false);
        Checks.due("not unlike", laid(9, 1, 1).isOf(0, 2, 20), false);
        Checks.due("odd", laid(1).isOf(0, 3, 20), true);
        Checks.due("odd", laid(19, 1).isOf(0, 3, 20), true);
        Checks.due("not odd", laid(20).isOf(0, 3, 20), false);
        Checks.due("not odd", laid(15, 3, 2).isOf(0, 3, 20), false);
        Sumlarder none = new Sumlarder();
        for (int kind = 2; kind <= 5; kind++) {
            Checks.due("both, kind " + kind, none.isOf(0, kind, 0), true);
        }
        Checks.act("odd without parts", none, () -> none.toUnlike(0), 0);
        Checks.act("unlike without parts", none, () -> none.toOdd(0), 0);
    }

    private static void turned() {
        Checks.sentence("1", "how many of its parts are at least 1, how many at least 2, and so on"
                + " up to its greatest part (without parts: without parts).");
        turns(new int[] {}, "", 0);
        turns(new int[] {1}, "1", 0);
        turns(new int[] {2, 1}, "2+1", 0);
        turns(new int[] {2}, "1+1", 1);
        turns(new int[] {20}, "1+1+1+1+1+1+1+1+1+1+1+1+1+1+1+1+1+1+1+1", 1);
        turns(new int[] {19, 1}, "2+1+1+1+1+1+1+1+1+1+1+1+1+1+1+1+1+1+1", 1);
        turns(new int[] {10, 10}, "2+2+2+2+2+2+2+2+2+2", 1);
        turns(new int[] {5, 5, 5, 5}, "4+4+4+4+4", 1);
        turns(new int[] {10, 2, 1, 1, 1, 1, 1, 1, 1, 1}, "10+2+1+1+1+1+1+1+1+1", 0);
    }

    private static void turns(int[] parts, String due, int another) {
        Sumlarder s = laid(parts);
        String was = s.wayText(0);
        Checks.act("turn of " + was, s, () -> s.turn(0), another);
        Checks.due(was + " turned", s.wayText(0), due);
        Checks.act("turn back to " + was, s, () -> s.turn(0), another);
        Checks.due(was + " turned twice", s.wayText(0), was);
    }

    private static void kindsOfWays() {
        Checks.sentence("1", "0: no part is greater than the MEASURE.");
        measures(0, true, 0);
        measures(0, true, 20, 20);
        measures(0, true, 7, 7, 7, 6);
        Checks.sentence("1", "1: it has just as many parts as the MEASURE.");
        measures(1, false, 0);
        measures(1, false, 1, 20);
        measures(1, false, 3, 7, 7, 6);
        Checks.sentence("1", "2: it is UNLIKE, and no part is greater.");
        measures(2, true, 0);
        measures(2, true, 19, 19, 1);
        measures(2, true, 99, 10, 10);
        Checks.sentence("1", "3: it is ODD, and no part is greater.");
        measures(3, true, 0);
        measures(3, true, 19, 19, 1);
        measures(3, true, 99, 20);
        Checks.sentence("1", "4: it is ODD and UNLIKE, and no part is greater.");
        measures(4, true, 0);
        measures(4, true, 19, 19, 1);
        measures(4, true, 99, 9, 9);
        measures(4, true, 99, 10, 9);
        Checks.sentence("1", "5: it is UNLIKE and has just as many parts.");
        measures(5, false, 0);
        measures(5, false, 1, 20);
        measures(5, false, 5, 6, 5, 4, 3, 2);
        measures(5, false, 99, 2, 2);
        Checks.sentence("1", "6: it has at most as many parts.");
        measures(6, true, 0);
        measures(6, true, 1, 20);
        measures(6, true, 4, 5, 5, 5, 5);
        Checks.sentence("1", "7: it is its own TURNED, and no part is greater than the MEASURE.");
        measures(7, true, 0);
        measures(7, true, 1, 1);
        measures(7, true, 10, 10, 2, 1, 1, 1, 1, 1, 1, 1, 1);
        measures(7, true, 99, 2);
        measures(7, true, 99, 20);
    }

    /** The way fits from that measure on, or with that one alone. */
    private static void measures(int kind, boolean andMore, int least, int... parts) {
        Sumlarder s = laid(parts);
        for (int measure = 0; measure <= 20; measure++) {
            int m = measure;
            boolean due = andMore ? m >= least : m == least;
            Checks.asks(s.wayText(0) + " isOf " + kind + " " + m, s,
                    () -> s.isOf(0, kind, m), due);
        }
    }

    private static void kindsCounted() {
        Checks.sentence("2", "Its WORTH is how many WAYS of the NUMBER are of the KIND with the"
                + " MEASURE.");
        // kind, number, measure, worth: at the ends of number and measure, and where it turns 0
        int[][] due = {
            {0, 0, 0, 1}, {0, 1, 0, 0}, {0, 20, 0, 0}, {0, 20, 1, 1}, {0, 20, 19, 626},
            {0, 20, 20, 627}, {0, 1, 20, 1}, {1, 0, 0, 1}, {1, 0, 1, 0}, {1, 0, 20, 0},
            {1, 20, 0, 0}, {1, 20, 1, 1}, {1, 20, 20, 1}, {1, 19, 20, 0}, {1, 20, 19, 1},
            {2, 0, 0, 1}, {2, 0, 20, 1}, {2, 20, 0, 0}, {2, 20, 5, 0}, {2, 20, 6, 1},
            {2, 20, 20, 64}, {2, 20, 19, 63}, {3, 20, 1, 1}, {3, 20, 2, 1}, {3, 20, 19, 64},
            {3, 20, 20, 64}, {3, 20, 18, 63}, {4, 20, 0, 0}, {4, 20, 10, 1}, {4, 20, 9, 1},
            {4, 20, 8, 0}, {4, 20, 20, 7}, {5, 0, 0, 1}, {5, 0, 1, 0}, {5, 20, 0, 0},
            {5, 20, 1, 1}, {5, 20, 5, 7}, {5, 20, 6, 0}, {5, 15, 5, 1}, {5, 14, 5, 0},
            {5, 20, 20, 0}, {6, 0, 0, 1}, {6, 0, 20, 1}, {6, 20, 0, 0}, {6, 20, 1, 1},
            {6, 20, 2, 11}, {6, 20, 19, 626}, {6, 20, 20, 627}, {7, 0, 0, 1}, {7, 1, 0, 0},
            {7, 1, 1, 1}, {7, 2, 20, 0}, {7, 20, 20, 7}, {7, 20, 4, 0}, {7, 16, 4, 1},
        };
        Sumlarder s = new Sumlarder();
        for (int[] c : due) {
            Checks.due("walk " + Arrays.toString(c), s.walk(c[0], c[1], c[2]), c[3]);
            Checks.due("product " + Arrays.toString(c), s.product(c[0], c[1], c[2]), c[3]);
            if (c[0] <= 5) {
                Checks.due("know " + Arrays.toString(c), s.know(0, c[0], c[1], c[2]), c[3]);
            }
        }
    }

    private static void casesInMemories() {
        Checks.sentence("2", "In the memories there are only CASES of the KINDS 0 to 5; there a"
                + " CASE is OUT, if its KIND is not 0 to 5, or its NUMBER or MEASURE not 0 to 20.");
        int[][] out = {
            {-1, 4, 4}, {6, 4, 4}, {7, 4, 4}, {0, -1, 4}, {5, 21, 4}, {0, 4, -1}, {5, 4, 21},
            // out goes ahead of what rests
            {6, 0, 0}, {0, 0, 21}, {0, 21, 0}, {0, -1, 0}, {0, 0, -1},
        };
        for (int[] c : out) {
            Sumlarder s = new Sumlarder();
            Checks.illegal("know", s, () -> s.know(0, c[0], c[1], c[2]));
            Checks.illegal("learn", s, () -> s.learn(0, c[0], c[1], c[2]));
            Checks.illegal("relearn", s, () -> s.relearn(0, c[0], c[1], c[2]));
            Checks.illegal("forget", s, () -> s.forget(0, c[0], c[1], c[2]));
            Checks.illegal("forgetIf", s, () -> s.forgetIf(0, c[0], c[1], c[2], 1));
            Checks.illegal("isKept", s, () -> s.isKept(0, c[0], c[1], c[2], 0));
            Checks.illegal("worthOr", s, () -> s.worthOr(0, c[0], c[1], c[2], 1));
            Checks.illegal("confirm", s, () -> s.confirm(0, c[0], c[1], c[2], 1));
        }
        Sumlarder s = new Sumlarder();
        for (int kind = 0; kind <= 5; kind++) {
            int k = kind;
            Checks.act("the greatest case", s, () -> s.learn(0, k, 20, 20), 1);
            Checks.act("the smallest case", s, () -> s.learn(0, k, 1, 1), 1);
        }
        Checks.due("walk of kind 6", s.walk(6, 4, 4), 5);
        Checks.due("product of kind 7", s.product(7, 4, 4), 1);
    }

    private static void codes() {
        Checks.sentence("2", "Its CODE is KIND * 1024 + NUMBER * 32 + MEASURE.");
        markOfOne(0, 1, 1, 33 ^ 1);
        markOfOne(0, 20, 20, 660 ^ 627);
        markOfOne(0, 1, 20, 52 ^ 1);
        markOfOne(0, 20, 1, 641 ^ 1);
        markOfOne(5, 1, 1, 5153 ^ 1);
        markOfOne(5, 20, 20, 5780);
        markOfOne(3, 20, 20, 3732 ^ 64);
    }

    private static void markOfOne(int kind, int number, int measure, int due) {
        Sumlarder s = new Sumlarder();
        s.learn(1, kind, number, measure);
        Checks.due("mark of " + kind + " " + number + " " + measure, s.about(1, 1), due);
    }

    private static void seriesStarts() {
        Checks.sentence("2", "SERIES: a row c of 21 numbers, c[0] = 1, all others 0.");
        Sumlarder s = new Sumlarder();
        for (int kind = 0; kind <= 7; kind++) {
            for (int number = 0; number <= 20; number++) {
                Checks.due("no factors, kind " + kind + ", " + number,
                        s.product(kind, number, 0), number == 0 ? 1 : 0);
            }
        }
    }

    private static void seriesOftenAndOnce() {
        Checks.sentence("2", "OFTEN means that for e = j, j + 1, .. to 20 c[e - j] is added to"
                + " c[e] (with what was changed just ahead); ONCE means that for e = 20, 19, .."
                + " down to j it is.");
        Sumlarder s = new Sumlarder();
        for (int number = 0; number <= 20; number++) {
            // 1 is taken often here, and once here
            Checks.due("often 1", s.product(0, number, 1), 1);
            Checks.due("once 1", s.product(2, number, 1), number <= 1 ? 1 : 0);
            Checks.due("often odd 1", s.product(3, number, 2), 1);
            Checks.due("once odd 1", s.product(4, number, 2), number <= 1 ? 1 : 0);
            Checks.due("often to 20", s.product(0, number, 20), ALL[number]);
        }
        Checks.due("20 by 20 alone", s.product(0, 20, 20) - s.product(0, 20, 19), 1);
        Checks.due("20 by 20 alone, once", s.product(2, 20, 20) - s.product(2, 20, 19), 1);
        Checks.due("nothing below 20 by 20", s.product(0, 19, 20) - s.product(0, 19, 19), 0);
    }

    private static void seriesFactors() {
        Checks.sentence("2", "KINDS 0, 1, 5, 6: OFTEN for j = 1 to MEASURE; 2: ONCE for these j;"
                + " 3: OFTEN for the odd ones of these j; 4: ONCE for the odd ones of these j;");
        Sumlarder s = new Sumlarder();
        for (int measure = 1; measure <= 20; measure++) {
            int odd = measure % 2;
            Checks.due("kind 0", last(s, 0, measure), 1);
            Checks.due("kind 6", last(s, 6, measure), 1);
            Checks.due("kind 2", last(s, 2, measure), 1);
            Checks.due("kind 3", last(s, 3, measure), odd);
            Checks.due("kind 4", last(s, 4, measure), odd);
            if (measure <= 10) {
                Checks.due("kind 1", s.product(1, 2 * measure, measure),
                        s.product(0, measure, measure));
            }
        }
        // just MEASURE is left over here, so the factor of MEASURE brings one way
        Checks.due("kind 5, 2", s.product(5, 5, 2), 2);
        Checks.due("kind 5, 3", s.product(5, 9, 3), 3);
        Checks.due("kind 5, 4", s.product(5, 14, 4), 5);
    }

    /** How many ways of the number MEASURE the factor of MEASURE alone brings. */
    private static int last(Sumlarder s, int kind, int measure) {
        return s.product(kind, measure, measure) - s.product(kind, measure, measure - 1);
    }

    private static void seriesOfSeven() {
        Checks.sentence("2", "7: ONCE for the odd j from 1 to 2 * MEASURE - 1 (at most 20).");
        // 20 is 19+1, 17+3, 15+5, 13+7, 11+9 and 11+5+3+1, 9+7+3+1 of unlike odd numbers
        int[] due = {0, 0, 0, 0, 0, 1, 3, 4, 5, 6, 7, 7, 7, 7, 7, 7, 7, 7, 7, 7, 7};
        Sumlarder s = new Sumlarder();
        for (int measure = 0; measure <= 20; measure++) {
            Checks.due("product of 20, " + measure, s.product(7, 20, measure), due[measure]);
            Checks.due("walk of 20, " + measure, s.walk(7, 20, measure), due[measure]);
        }
        Checks.due("up to 1", s.product(7, 1, 1), 1);
        Checks.due("not up to 3", s.product(7, 3, 1), 0);
        Checks.due("up to 3", s.product(7, 3, 2), 1);
        Checks.due("up to 19", s.product(7, 19, 10) - s.product(7, 19, 9), 1);
    }

    private static void seriesBelowNought() {
        Checks.sentence("2", "of KIND 1 c[NUMBER - MEASURE], of KIND 5 c[NUMBER - MEASURE *"
                + " (MEASURE + 1) / 2]; 0 if that place is below 0.");
        Sumlarder s = new Sumlarder();
        for (int measure = 1; measure <= 20; measure++) {
            Checks.due("kind 1 at 0", s.product(1, measure, measure), 1);
            Checks.due("kind 1 at -1", s.product(1, measure - 1, measure), 0);
            Checks.due("kind 1 far below", s.product(1, 0, measure), 0);
            Checks.due("kind 5 far below", s.product(5, 0, measure), 0);
        }
        for (int measure = 1; measure <= 5; measure++) {
            int least = measure * (measure + 1) / 2;
            Checks.due("kind 5 at 0", s.product(5, least, measure), 1);
            Checks.due("kind 5 at -1", s.product(5, least - 1, measure), 0);
        }
        Checks.due("kind 5 at -1", s.product(5, 20, 6), 0);
        Checks.due("kind 5 at -190", s.product(5, 20, 20), 0);
    }
}
