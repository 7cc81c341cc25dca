/** Section 4 and promises 23 to 26: each sentence that names an edge of the ledgers. */
public final class EdgesOfLedgersTest {
    private static final int[] ALL = {
        1, 1, 2, 3, 5, 7, 11, 15, 22, 30, 42, 56, 77, 101, 135, 176, 231, 297, 385, 490, 627
    };
    private static final int[] UNLIKE = {
        1, 1, 1, 2, 2, 3, 4, 5, 6, 8, 10, 12, 15, 18, 22, 27, 32, 38, 46, 54, 64
    };

    public static void main(String[] args) {
        keepNothingAtFirst();
        noughtRests();
        belowNoughtIsLeftOut();
        ruleNought();
        ruleOne();
        ruleTwo();
        legs();
        sameCounts();
        rule();
        forgetRule();
        forgetRuleOfAll();
        ledger();
        ruleWorth();
        Checks.finish("EdgesOfLedgersTest");
    }

    private static int worth(int rule, int number) {
        return rule == 2 ? UNLIKE[number] : ALL[number];
    }

    private static void counts(Sumlarder s, int wanted, int made, int found) {
        Checks.due("WANTED", s.tally(1), wanted);
        Checks.due("MADE", s.tally(2), made);
        Checks.due("FOUND", s.tally(3), found);
    }

    private static void keepNothingAtFirst() {
        Checks.sentence("4", "There are three ledgers, 0 to 2, one for each RULE; each keeps some"
                + " NUMBERS from 1 on with their WORTHS there, none at first.");
        Sumlarder s = new Sumlarder();
        for (int rule = 0; rule <= 2; rule++) {
            Checks.due("how many", s.ledger(rule, 0), 0);
            Checks.due("sum", s.ledger(rule, 1), 0);
            for (int number = 0; number <= 20; number++) {
                Checks.due("worth", s.ruleWorth(rule, number, number % 2), -1);
            }
        }
    }

    private static void noughtRests() {
        Checks.sentence("4", "A NUMBER 0 RESTS, its WORTH is 1");
        Sumlarder s = new Sumlarder();
        for (int rule = 0; rule <= 2; rule++) {
            int r = rule;
            Checks.idleAct("rule of 0", s, () -> s.rule(r, 0), 1);
            s.rule(r, 20);
            Checks.idleAct("rule of 0 of a full ledger", s, () -> s.rule(r, 0), 1);
            Checks.due("0 is not kept", s.ledger(r, 0), 20);
            Checks.due("0 is not kept", s.ruleWorth(r, 0, 0), -1);
            Checks.due("0 is not kept", s.ruleWorth(r, 0, 1), -1);
        }
    }

    private static void belowNoughtIsLeftOut() {
        Checks.sentence("4", "what is below 0 is left out.");
        int[][] due = {{1, 1, 1, 0}, {2, 2, 2, 0}, {3, 4, 3, 1}, {5, 8, 5, 3}};
        for (int[] d : due) {
            Sumlarder s = new Sumlarder();
            Checks.act("rule 0 of " + d[0], s, () -> s.rule(0, d[0]), ALL[d[0]]);
            counts(s, d[1], d[2], d[3]);
        }
    }

    private static void ruleNought() {
        Checks.sentence("4", "RULE 0: the WORTH w(n) is the sum, over j = 1, 2, .., of w(n - j *"
                + " (3 * j - 1) / 2) + w(n - j * (3 * j + 1) / 2), added if j is odd, taken off if"
                + " j is even.");
        Sumlarder s = new Sumlarder();
        Checks.act("the greatest at once", s, () -> s.rule(0, 20), 627);
        // legs stand 1, 2, 5, 7, 12 and 15 below
        counts(s, 79, 20, 59);
        // each number that a further leg comes with, and the one ahead of it
        for (int number : new int[] {1, 2, 4, 5, 6, 7, 11, 12, 14, 15, 20}) {
            Sumlarder t = new Sumlarder();
            Checks.due("rule 0 of " + number, t.rule(0, number), ALL[number]);
        }
    }

    private static void ruleOne() {
        Checks.sentence("4", "RULE 1: n * w(n) is the sum, over j = 1 to n, of w(n - j) times the"
                + " sum of all numbers from 1 on that divide j.");
        Sumlarder s = new Sumlarder();
        Checks.act("the smallest", s, () -> s.rule(1, 1), 1);
        counts(s, 1, 1, 0);
        Checks.act("the greatest", s, () -> s.rule(1, 20), 627);
        counts(s, 192, 20, 172);
        for (int number = 1; number <= 20; number++) {
            Checks.due("rule 1 of " + number, s.rule(1, number), ALL[number]);
        }
    }

    private static void ruleTwo() {
        Checks.sentence("4", "RULE 2: likewise, with the sum of all odd numbers that divide j.");
        Sumlarder s = new Sumlarder();
        Checks.act("the smallest", s, () -> s.rule(2, 1), 1);
        Checks.act("the smallest even one", s, () -> s.rule(2, 2), 1);
        Checks.act("the greatest", s, () -> s.rule(2, 20), 64);
        counts(s, 193, 20, 173);
        for (int number = 1; number <= 20; number++) {
            Checks.due("rule 2 of " + number, s.rule(2, number), UNLIKE[number]);
        }
    }

    private static void legs() {
        Checks.sentence("4", "The LEGS of n are the NUMBERS whose w stands there.");
        for (int rule = 0; rule <= 2; rule++) {
            Sumlarder s = new Sumlarder();
            s.rule(rule, 20);
            s.forgetRule(rule, 20);
            s.forgetRule(rule, 17);
            s.forgetRule(rule, 1);
            int wanted = s.tally(1);
            Checks.due("the greatest", s.rule(rule, 20), worth(rule, 20));
            // 17 is 3 below 20, and 3 is no leg of rule 0
            Checks.due("17", s.ruleWorth(rule, 17, 0), rule == 0 ? -1 : worth(rule, 17));
            Checks.due("1", s.ruleWorth(rule, 1, 0), rule == 0 ? -1 : 1);
            int[] legs = {6, 19, 19};
            // those of 17 too, and 1 has none but what rests
            int more = rule == 0 ? 0 : 16;
            Checks.due("WANTED", s.tally(1) - wanted, 1 + legs[rule] + more);
        }
    }

    private static void sameCounts() {
        Checks.sentence("4", "To KNOW a NUMBER in a ledger is told as in section 3, with the same"
                + " three counts");
        Sumlarder s = new Sumlarder();
        s.know(0, 0, 1, 1);
        counts(s, 1, 1, 0);
        s.rule(0, 1);
        counts(s, 2, 2, 0);
        s.rule(1, 1);
        counts(s, 3, 3, 0);
        s.rule(2, 1);
        counts(s, 4, 4, 0);
        s.rule(2, 1);
        counts(s, 5, 4, 1);
        Sumlarder t = new Sumlarder();
        t.rule(1, 5);
        t.forgetRule(1, 4);
        t.rule(1, 5);
        Checks.due("found above a forgotten one", t.ruleWorth(1, 4, 0), -1);
    }

    private static void rule() {
        Checks.sentence("Promise 23", "Returns its WORTH there.");
        for (int rule = 0; rule <= 2; rule++) {
            Sumlarder s = new Sumlarder();
            int r = rule;
            for (int number = 20; number >= 0; number--) {
                int n = number;
                Checks.act("falling", s, () -> s.rule(r, n), worth(r, n));
            }
            Sumlarder t = new Sumlarder();
            for (int number = 0; number <= 20; number++) {
                int n = number;
                Checks.act("rising", t, () -> t.rule(r, n), worth(r, n));
                Checks.due("kept so far", t.ledger(r, 0), n);
            }
        }
    }

    private static void forgetRule() {
        Checks.sentence("Promise 24", "Returns its WORTH there, -9 if the ledger does not keep it;"
                + " of 0 how many it kept.");
        for (int rule = 0; rule <= 2; rule++) {
            Sumlarder s = new Sumlarder();
            int r = rule;
            Checks.idleAct("0 of an empty ledger", s, () -> s.forgetRule(r, 0), 0);
            Checks.undone("smallest of an empty one", s, () -> s.forgetRule(r, 1));
            Checks.undone("greatest of an empty one", s, () -> s.forgetRule(r, 20));
            s.rule(r, 1);
            Checks.undone("greatest, not kept", s, () -> s.forgetRule(r, 20));
            Checks.undone("2, not kept", s, () -> s.forgetRule(r, 2));
            Checks.undone("kept in another", s, () -> s.forgetRule((r + 1) % 3, 1));
            Checks.act("smallest", s, () -> s.forgetRule(r, 1), 1);
            Checks.undone("smallest again", s, () -> s.forgetRule(r, 1));
            s.rule(r, 20);
            Checks.act("greatest", s, () -> s.forgetRule(r, 20), worth(r, 20));
            Checks.undone("greatest again", s, () -> s.forgetRule(r, 20));
            Checks.due("left", s.ledger(r, 0), 19);
        }
    }

    private static void forgetRuleOfAll() {
        Checks.sentence("Promise 24", "A ledger forgets a NUMBER; of 0 it forgets all.");
        for (int rule = 0; rule <= 2; rule++) {
            Sumlarder s = new Sumlarder();
            int r = rule;
            for (int other = 0; other <= 2; other++) {
                s.rule(other, 20);
            }
            Checks.act("full", s, () -> s.forgetRule(r, 0), 20);
            Checks.idleAct("empty", s, () -> s.forgetRule(r, 0), 0);
            for (int number = 1; number <= 20; number++) {
                Checks.due("forgotten", s.ruleWorth(r, number, 0), -1);
            }
            Checks.due("sum", s.ledger(r, 1), 0);
            Checks.due("the others are full", s.ledger((r + 1) % 3, 0), 20);
            Checks.due("the others are full", s.ledger((r + 2) % 3, 0), 20);
            s.rule(r, 1);
            Checks.act("one", s, () -> s.forgetRule(r, 0), 1);
        }
    }

    private static void ledger() {
        Checks.sentence("Promise 25", "Returns 0 how many NUMBERS it keeps, 1 the sum of the MIX of"
                + " NUMBER and WORTH over all these.");
        for (int rule = 0; rule <= 2; rule++) {
            Sumlarder s = new Sumlarder();
            int r = rule;
            Checks.asks("empty", s, () -> s.ledger(r, 0), 0);
            Checks.asks("empty", s, () -> s.ledger(r, 1), 0);
            s.rule(r, 1);
            Checks.asks("1 alone", s, () -> s.ledger(r, 0), 1);
            Checks.asks("1 and 1 mix to 0", s, () -> s.ledger(r, 1), 0);
            s.rule(r, 20);
            int sum = 0;
            for (int number = 1; number <= 20; number++) {
                sum += number ^ worth(r, number);
            }
            int full = sum;
            Checks.asks("full", s, () -> s.ledger(r, 0), 20);
            Checks.asks("full", s, () -> s.ledger(r, 1), full);
            s.forgetRule(r, 20);
            Checks.asks("but the greatest", s, () -> s.ledger(r, 1), full - (20 ^ worth(r, 20)));
        }
    }

    private static void ruleWorth() {
        Checks.sentence("Promise 26", "Returns the WORTH of the NUMBER in the ledger, by a key that"
                + " is made of it (making 0), or of its decimal text (1; both tell the same); -1"
                + " if the ledger does not keep it.");
        for (int rule = 0; rule <= 2; rule++) {
            for (int making = 0; making <= 1; making++) {
                Sumlarder s = new Sumlarder();
                int r = rule;
                int m = making;
                Checks.asks("empty", s, () -> s.ruleWorth(r, 1, m), -1);
                Checks.asks("empty", s, () -> s.ruleWorth(r, 20, m), -1);
                s.rule(r, 20);
                Checks.asks("0", s, () -> s.ruleWorth(r, 0, m), -1);
                for (int number : new int[] {1, 2, 9, 10, 19, 20}) {
                    Checks.asks("full", s, () -> s.ruleWorth(r, number, m), worth(r, number));
                    Checks.asks("elsewhere", s, () -> s.ruleWorth((r + 1) % 3, number, m), -1);
                }
                s.forgetRule(r, 20);
                Checks.asks("forgotten", s, () -> s.ruleWorth(r, 20, m), -1);
                Checks.asks("the next", s, () -> s.ruleWorth(r, 19, m), worth(r, 19));
            }
        }
    }
}
