/** Promises 23 to 26: the ledgers. */
public final class LedgersTest {
    private static final int[] ALL = {
        1, 1, 2, 3, 5, 7, 11, 15, 22, 30, 42, 56, 77, 101, 135, 176, 231, 297, 385, 490, 627
    };
    private static final int[] UNLIKE = {
        1, 1, 1, 2, 2, 3, 4, 5, 6, 8, 10, 12, 15, 18, 22, 27, 32, 38, 46, 54, 64
    };

    public static void main(String[] args) {
        worths();
        counts();
        forgetRule();
        ledger();
        ruleWorth();
        Checks.finish("LedgersTest");
    }

    private static void worths() {
        for (int rule = 0; rule <= 2; rule++) {
            Sumlarder rising = new Sumlarder();
            for (int number = 0; number <= 20; number++) {
                int r = rule;
                int n = number;
                int due = rule == 2 ? UNLIKE[n] : ALL[n];
                Checks.act("rule " + r + " " + n, rising, () -> rising.rule(r, n), due);
                Sumlarder alone = new Sumlarder();
                Checks.act("rule " + r + " " + n + " alone", alone, () -> alone.rule(r, n), due);
                Checks.act("again", alone, () -> alone.rule(r, n), due);
            }
        }
    }

    private static void counts() {
        Sumlarder s = new Sumlarder();
        Checks.act("rule of 0", s, () -> s.rule(0, 0), 1);
        tallies(s, 0, 0, 0);
        Checks.due("0 is not kept", s.ledger(0, 0), 0);
        // 6 leans on 5, 4, 1; 5 on 4, 3, 0; 4 on 3, 2; 3 on 2, 1; 2 on 1, 0; 1 on 0
        s.rule(0, 6);
        tallies(s, 11, 6, 5);
        s.rule(0, 6);
        tallies(s, 12, 6, 6);
        // 3 leans on 2, 1, 0; 2 on 1, 0; 1 on 0
        s.rule(1, 3);
        tallies(s, 16, 9, 7);
        s.rule(2, 3);
        tallies(s, 20, 12, 8);
        Checks.due("rule 0 keeps", s.ledger(0, 0), 6);
        Checks.due("rule 1 keeps", s.ledger(1, 0), 3);
        Checks.due("rule 2 keeps", s.ledger(2, 0), 3);
    }

    private static void tallies(Sumlarder s, int wanted, int made, int found) {
        Checks.due("WANTED", s.tally(1), wanted);
        Checks.due("MADE", s.tally(2), made);
        Checks.due("FOUND", s.tally(3), found);
    }

    private static void forgetRule() {
        for (int rule = 0; rule <= 2; rule++) {
            int r = rule;
            Sumlarder s = new Sumlarder();
            Checks.undone("forgetRule of none", s, () -> s.forgetRule(r, 7));
            Checks.act("forget all of none", s, () -> s.forgetRule(r, 0), 0);
            s.rule(r, 20);
            int seven = rule == 2 ? 5 : 15;
            Checks.act("forgetRule", s, () -> s.forgetRule(r, 7), seven);
            Checks.due("forgot one", s.ledger(r, 0), 19);
            Checks.undone("forgetRule again", s, () -> s.forgetRule(r, 7));
            int made = s.tally(2);
            Checks.act("rule anew", s, () -> s.rule(r, 7), seven);
            Checks.due("made anew", s.tally(2), made + 1);
            Checks.act("forget all", s, () -> s.forgetRule(r, 0), 20);
            Checks.due("forgot all", s.ledger(r, 0), 0);
            Checks.due("forgot all marks", s.ledger(r, 1), 0);
            for (int number = 1; number <= 20; number++) {
                int n = number;
                Checks.undone("forgotten", s, () -> s.forgetRule(r, n));
                Checks.due("forgotten", s.ruleWorth(r, n, 0), -1);
            }
            forgetOneByOne(r);
        }
        Sumlarder s = new Sumlarder();
        s.rule(0, 9);
        s.rule(1, 9);
        s.forgetRule(0, 0);
        Checks.due("another ledger keeps on", s.ledger(1, 0), 9);
    }

    private static void forgetOneByOne(int rule) {
        Sumlarder s = new Sumlarder();
        s.rule(rule, 20);
        for (int number = 20; number >= 1; number--) {
            int n = number;
            int due = rule == 2 ? UNLIKE[n] : ALL[n];
            Checks.asks("ruleWorth", s, () -> s.ruleWorth(rule, n, 0), due);
            Checks.act("forgetRule", s, () -> s.forgetRule(rule, n), due);
            Checks.due("left", s.ledger(rule, 0), n - 1);
            Checks.due("left marks", s.ledger(rule, 1), marks(rule, n - 1));
        }
    }

    private static int marks(int rule, int last) {
        int sum = 0;
        for (int n = 1; n <= last; n++) {
            sum += n ^ (rule == 2 ? UNLIKE[n] : ALL[n]);
        }
        return sum;
    }

    private static void ledger() {
        Sumlarder s = new Sumlarder();
        s.rule(1, 3);
        Checks.asks("ledger 0", s, () -> s.ledger(1, 0), 3);
        Checks.asks("ledger 1", s, () -> s.ledger(1, 1), (1 ^ 1) + (2 ^ 2) + (3 ^ 3));
        s.rule(2, 5);
        Checks.asks("ledger 1", s, () -> s.ledger(2, 1),
                (1 ^ 1) + (2 ^ 1) + (3 ^ 2) + (4 ^ 2) + (5 ^ 3));
        s.forgetRule(2, 4);
        Checks.asks("ledger 1", s, () -> s.ledger(2, 1), (1 ^ 1) + (2 ^ 1) + (3 ^ 2) + (5 ^ 3));
        for (int rule = 0; rule <= 2; rule++) {
            int r = rule;
            s.rule(r, 20);
            Checks.asks("ledger 1 of all", s, () -> s.ledger(r, 1), marks(r, 20));
        }
    }

    private static void ruleWorth() {
        Sumlarder s = new Sumlarder();
        s.rule(0, 12);
        s.rule(2, 12);
        s.forgetRule(0, 12);
        for (int making = 0; making <= 1; making++) {
            int m = making;
            Checks.asks("ruleWorth", s, () -> s.ruleWorth(0, 11, m), 56);
            Checks.asks("ruleWorth", s, () -> s.ruleWorth(2, 12, m), 15);
            Checks.asks("ruleWorth, forgotten", s, () -> s.ruleWorth(0, 12, m), -1);
            Checks.asks("ruleWorth, never", s, () -> s.ruleWorth(2, 13, m), -1);
            Checks.asks("ruleWorth, elsewhere", s, () -> s.ruleWorth(1, 11, m), -1);
            Checks.asks("ruleWorth of 0", s, () -> s.ruleWorth(0, 0, m), -1);
        }
    }
}
