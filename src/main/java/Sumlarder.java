import java.util.Arrays;

/**
 * In how many ways a number is a sum: three memories keep answers case by case, three ledgers
 * number by number, and on two desks lie such ways themselves.
 */
public final class Sumlarder {
    private static final int LARGEST = 20;
    private static final int KINDS = 8;
    private static final int KEPT_KINDS = 6;
    private static final int MEMORIES = 3;
    private static final int LEDGERS = 3;
    private static final int DESKS = 2;
    private static final int CANNOT = -9;
    // (20, 20) leans on 39 smaller cases below one another at the most
    private static final int DEEPEST = 45;
    // 20 has 627 ways; the bound only has to be out of reach
    private static final int WAYS_BOUND = 1000000;
    // stands where no worth is kept; no worth is below 0
    private static final int NONE = -1;

    private final Memory[] memories;
    private final Ledger[] ledgers;
    private final Way[] desks;
    private final Counts counts;
    private final Series series;
    // rows that are used again by every call, so that calls make no new ones
    private final Way walker;
    private final Way spare;

    public Sumlarder() {
        memories = new Memory[MEMORIES];
        for (int memory = 0; memory < memories.length; memory++) {
            memories[memory] = new Memory();
        }
        ledgers = new Ledger[LEDGERS];
        for (int rule = 0; rule < ledgers.length; rule++) {
            ledgers[rule] = new Ledger(rule);
        }
        desks = new Way[DESKS];
        for (int desk = 0; desk < desks.length; desk++) {
            desks[desk] = new Way();
        }
        counts = new Counts();
        series = new Series();
        walker = new Way();
        spare = new Way();
    }

    // ==== the memories: what changes

    public int know(int memory, int kind, int number, int measure)
            throws IndexOutOfBoundsException, IllegalArgumentException {
        Memory asked = memoryAt(memory);
        checkCase(kind, number, measure);
        return acted(asked.recall(kind, number, measure, counts));
    }

    public int few(int memory, int number, int measure)
            throws IndexOutOfBoundsException, IllegalArgumentException {
        Memory asked = memoryAt(memory);
        checkRange(number, 0, LARGEST);
        checkRange(measure, 0, LARGEST);
        int sum = 0;
        for (int parts = 0; parts <= measure; parts++) {
            sum += asked.recall(1, number, parts, counts);
        }
        return acted(sum);
    }

    public int surplus(int memory, int number)
            throws IndexOutOfBoundsException, IllegalArgumentException {
        Memory asked = memoryAt(memory);
        checkRange(number, 0, LARGEST);
        int sum = 0;
        for (int parts = 0; parts <= number; parts++) {
            int worth = asked.recall(5, number, parts, counts);
            sum += parts % 2 == 0 ? worth : -worth;
        }
        return acted(sum);
    }

    public int place(int memory, int desk) throws IndexOutOfBoundsException {
        Memory asked = memoryAt(memory);
        Way laid = deskAt(desk);
        int rest = laid.sum();
        int before = rest;
        int ahead = 0;
        for (int part = LARGEST; part >= 1; part--) {
            for (int left = laid.timesOf(part); left > 0; left--) {
                ahead += asked.recall(0, rest, before, counts);
                ahead -= asked.recall(0, rest, part, counts);
                rest -= part;
                before = part;
            }
        }
        return acted(ahead);
    }

    public int learn(int memory, int kind, int number, int measure)
            throws IndexOutOfBoundsException, IllegalArgumentException {
        Memory asked = memoryAt(memory);
        checkCase(kind, number, measure);
        if (rests(number, measure)) {
            return undone();
        }
        if (asked.keeps(kind, number, measure)) {
            return acted(0);
        }
        asked.keep(kind, number, measure, series.tells(kind, number, measure));
        return acted(1);
    }

    public int relearn(int memory, int kind, int number, int measure)
            throws IndexOutOfBoundsException, IllegalArgumentException {
        Memory asked = memoryAt(memory);
        checkCase(kind, number, measure);
        if (!asked.keeps(kind, number, measure)) {
            return undone();
        }
        int worth = waysOneByOne(kind, number, measure);
        asked.keep(kind, number, measure, worth);
        return acted(worth);
    }

    public int forget(int memory, int kind, int number, int measure)
            throws IndexOutOfBoundsException, IllegalArgumentException {
        Memory asked = memoryAt(memory);
        checkCase(kind, number, measure);
        if (!asked.keeps(kind, number, measure)) {
            return undone();
        }
        int worth = asked.keptWorth(kind, number, measure);
        asked.drop(kind, number, measure);
        return acted(worth);
    }

    public int forgetIf(int memory, int kind, int number, int measure, int claim)
            throws IndexOutOfBoundsException, IllegalArgumentException {
        Memory asked = memoryAt(memory);
        checkCase(kind, number, measure);
        if (!asked.keepsWith(kind, number, measure, claim)) {
            return acted(0);
        }
        asked.drop(kind, number, measure);
        return acted(1);
    }

    public int forgetAll(int memory, int what, int value)
            throws IndexOutOfBoundsException, IllegalArgumentException {
        Memory asked = memoryAt(memory);
        checkRange(what, 0, 3);
        return acted(asked.dropEach(what, value));
    }

    public int clear(int memory) throws IndexOutOfBoundsException {
        return acted(memoryAt(memory).dropAll());
    }

    public int copy(int memory, int into) throws IndexOutOfBoundsException {
        Memory from = memoryAt(memory);
        Memory to = memoryAt(into);
        to.become(from);
        return acted(to.size());
    }

    public int pour(int memory, int into) throws IndexOutOfBoundsException {
        Memory from = memoryAt(memory);
        Memory to = memoryAt(into);
        if (memory == into) {
            return undone();
        }
        return acted(to.takeIn(from));
    }

    // ---- what is asked of them

    public boolean isKept(int memory, int kind, int number, int measure, int making)
            throws IndexOutOfBoundsException, IllegalArgumentException {
        Memory asked = memoryAt(memory);
        checkCase(kind, number, measure);
        // keys of all makings tell the same, so nothing but their range is looked at
        checkRange(making, 0, 2);
        return asked.keeps(kind, number, measure);
    }

    public int worthOr(int memory, int kind, int number, int measure, int fallback)
            throws IndexOutOfBoundsException, IllegalArgumentException {
        Memory asked = memoryAt(memory);
        checkCase(kind, number, measure);
        if (!asked.keeps(kind, number, measure)) {
            return fallback;
        }
        return asked.keptWorth(kind, number, measure);
    }

    public boolean confirm(int memory, int kind, int number, int measure, int claim)
            throws IndexOutOfBoundsException, IllegalArgumentException {
        Memory asked = memoryAt(memory);
        checkCase(kind, number, measure);
        return asked.keepsWith(kind, number, measure, claim);
    }

    public int about(int memory, int which)
            throws IndexOutOfBoundsException, IllegalArgumentException {
        Memory asked = memoryAt(memory);
        checkRange(which, 0, 3);
        switch (which) {
            case 0:
                return asked.size();
            case 1:
                return asked.mark();
            case 2:
                return asked.sumOfWorths();
            default:
                return asked.size() == 0 ? 1 : 0;
        }
    }

    public boolean has(int memory, int claim) throws IndexOutOfBoundsException {
        return memoryAt(memory).howMany(3, claim) > 0;
    }

    public int count(int memory, int what, int value)
            throws IndexOutOfBoundsException, IllegalArgumentException {
        Memory asked = memoryAt(memory);
        checkRange(what, 0, 3);
        return asked.howMany(what, value);
    }

    public boolean isSame(int memory, int against) throws IndexOutOfBoundsException {
        Memory one = memoryAt(memory);
        Memory other = memoryAt(against);
        return one.isLike(other);
    }

    // ==== the other roads to a worth

    public int walk(int kind, int number, int measure) throws IllegalArgumentException {
        checkAnyCase(kind, number, measure);
        return waysOneByOne(kind, number, measure);
    }

    public int product(int kind, int number, int measure) throws IllegalArgumentException {
        checkAnyCase(kind, number, measure);
        return series.tells(kind, number, measure);
    }

    // ==== the ledgers

    public int rule(int rule, int number)
            throws IndexOutOfBoundsException, IllegalArgumentException {
        Ledger asked = ledgerAt(rule);
        checkRange(number, 0, LARGEST);
        return acted(asked.recall(number, counts));
    }

    public int forgetRule(int rule, int number)
            throws IndexOutOfBoundsException, IllegalArgumentException {
        Ledger asked = ledgerAt(rule);
        checkRange(number, 0, LARGEST);
        if (number == 0) {
            return acted(asked.dropAll());
        }
        if (!asked.keeps(number)) {
            return undone();
        }
        int worth = asked.keptWorth(number);
        asked.drop(number);
        return acted(worth);
    }

    public int ledger(int rule, int which)
            throws IndexOutOfBoundsException, IllegalArgumentException {
        Ledger asked = ledgerAt(rule);
        checkRange(which, 0, 1);
        return which == 0 ? asked.size() : asked.mark();
    }

    public int ruleWorth(int rule, int number, int making)
            throws IndexOutOfBoundsException, IllegalArgumentException {
        Ledger asked = ledgerAt(rule);
        checkRange(number, 0, LARGEST);
        // both makings tell the same, so nothing but their range is looked at
        checkRange(making, 0, 1);
        return asked.keeps(number) ? asked.keptWorth(number) : -1;
    }

    // ==== the desks

    public int addPart(int desk, int part, int times)
            throws IndexOutOfBoundsException, IllegalArgumentException {
        Way laid = deskAt(desk);
        checkRange(part, 1, LARGEST);
        checkRange(times, 1, LARGEST);
        if (laid.sum() + part * times > LARGEST) {
            return undone();
        }
        laid.put(part, times);
        return acted(laid.timesOf(part));
    }

    public int takePart(int desk, int part)
            throws IndexOutOfBoundsException, IllegalArgumentException {
        Way laid = deskAt(desk);
        checkRange(part, 1, LARGEST);
        if (laid.timesOf(part) == 0) {
            return undone();
        }
        laid.put(part, -1);
        return acted(laid.timesOf(part));
    }

    public int layFirst(int desk, int number)
            throws IndexOutOfBoundsException, IllegalArgumentException {
        Way laid = deskAt(desk);
        checkRange(number, 0, LARGEST);
        laid.becomeFirst(number);
        return acted(laid.parts());
    }

    public int next(int desk) throws IndexOutOfBoundsException {
        Way laid = deskAt(desk);
        if (!laid.stepOn()) {
            return undone();
        }
        return acted(laid.parts());
    }

    public int turn(int desk) throws IndexOutOfBoundsException {
        Way laid = deskAt(desk);
        spare.becomeTurned(laid);
        boolean another = !spare.isLike(laid);
        laid.become(spare);
        return acted(another ? 1 : 0);
    }

    public int toUnlike(int desk) throws IndexOutOfBoundsException {
        Way laid = deskAt(desk);
        if (!laid.isOdd()) {
            return undone();
        }
        spare.becomeUnlike(laid);
        laid.become(spare);
        return acted(laid.parts());
    }

    public int toOdd(int desk) throws IndexOutOfBoundsException {
        Way laid = deskAt(desk);
        if (!laid.isUnlike()) {
            return undone();
        }
        spare.becomeOdd(laid);
        laid.become(spare);
        return acted(laid.parts());
    }

    public int copyDesk(int desk) throws IndexOutOfBoundsException {
        Way laid = deskAt(desk);
        deskAt(1 - desk).become(laid);
        return acted(laid.differentParts());
    }

    // ---- what is asked of them

    public int times(int desk, int part)
            throws IndexOutOfBoundsException, IllegalArgumentException {
        Way laid = deskAt(desk);
        checkRange(part, 1, LARGEST);
        return laid.timesOf(part);
    }

    public int way(int desk, int which)
            throws IndexOutOfBoundsException, IllegalArgumentException {
        Way laid = deskAt(desk);
        checkRange(which, 0, 2);
        switch (which) {
            case 0:
                return laid.sum();
            case 1:
                return laid.parts();
            default:
                return laid.differentParts();
        }
    }

    public String wayText(int desk) throws IndexOutOfBoundsException {
        return deskAt(desk).text();
    }

    public boolean isOf(int desk, int kind, int measure)
            throws IndexOutOfBoundsException, IllegalArgumentException {
        Way laid = deskAt(desk);
        checkRange(kind, 0, KINDS - 1);
        checkRange(measure, 0, LARGEST);
        return laid.isOfKind(kind, measure, spare);
    }

    public boolean isSameWay() {
        return deskAt(0).isLike(deskAt(1));
    }

    // ==== the whole

    public int tally(int what) throws IllegalArgumentException {
        checkRange(what, 0, 5);
        switch (what) {
            case 0:
                return counts.acts;
            case 1:
                return counts.wanted;
            case 2:
                return counts.made;
            case 3:
                return counts.found;
            case 4:
                return counts.undone;
            default:
                return counts.knocks;
        }
    }

    public int knock() {
        counts.knocks++;
        return counts.knocks;
    }

    public boolean isSound(int memory) throws IndexOutOfBoundsException {
        Memory asked = memoryAt(memory);
        return asked.agreesWith(series)
                && asked.isWellCounted()
                && counts.wanted == counts.made + counts.found;
    }

    public long digest() {
        long d = 7978;
        for (int memory = 0; memory < MEMORIES; memory++) {
            d = d * 31 + about(memory, 0);
            d = d * 31 + about(memory, 1);
        }
        for (int rule = 0; rule < LEDGERS; rule++) {
            d = d * 31 + ledger(rule, 0);
            d = d * 31 + ledger(rule, 1);
        }
        for (int desk = 0; desk < DESKS; desk++) {
            d = d * 31 + way(desk, 0);
            d = d * 31 + way(desk, 1);
            for (int part = 1; part <= LARGEST; part++) {
                d = d * 31 + times(desk, part);
            }
        }
        for (int what = 0; what <= 5; what++) {
            d = d * 31 + tally(what);
        }
        return d;
    }

    // what the methods above share

    private Memory memoryAt(int memory) {
        if (memory < 0 || memory >= memories.length) {
            throw new IndexOutOfBoundsException("no such memory");
        }
        return memories[memory];
    }

    private Ledger ledgerAt(int rule) {
        if (rule < 0 || rule >= ledgers.length) {
            throw new IndexOutOfBoundsException("no such rule");
        }
        return ledgers[rule];
    }

    private Way deskAt(int desk) {
        if (desk < 0 || desk >= desks.length) {
            throw new IndexOutOfBoundsException("no such desk");
        }
        return desks[desk];
    }

    private static void checkRange(int value, int least, int most) {
        if (value < least || value > most) {
            throw new IllegalArgumentException("out of range");
        }
    }

    private static void checkCase(int kind, int number, int measure) {
        checkRange(kind, 0, KEPT_KINDS - 1);
        checkRange(number, 0, LARGEST);
        checkRange(measure, 0, LARGEST);
    }

    private static void checkAnyCase(int kind, int number, int measure) {
        checkRange(kind, 0, KINDS - 1);
        checkRange(number, 0, LARGEST);
        checkRange(measure, 0, LARGEST);
    }

    private int acted(int answer) {
        counts.acts++;
        return answer;
    }

    private int undone() {
        counts.undone++;
        return CANNOT;
    }

    private int waysOneByOne(int kind, int number, int measure) {
        walker.becomeFirst(number);
        int ways = 0;
        for (int steps = 0; steps < WAYS_BOUND; steps++) {
            if (walker.isOfKind(kind, measure, spare)) {
                ways++;
            }
            if (!walker.stepOn()) {
                break;
            }
        }
        return ways;
    }

    private static boolean rests(int number, int measure) {
        return number <= 0 || measure == 0;
    }

    private static int restingWorth(int kind, int number, int measure) {
        if (number != 0) {
            return 0;
        }
        return (kind == 1 || kind == 5) && measure != 0 ? 0 : 1;
    }

    /** What the object counts over all its parts. */
    private static final class Counts {
        int acts;
        int wanted;
        int made;
        int found;
        int undone;
        int knocks;
    }

    /** Some cases with their worths. */
    private static final class Memory {
        private static final int SPAN = LARGEST + 1;
        private static final int SLOTS = KEPT_KINDS * SPAN * SPAN;
        private static final int NO_SLOT = -1;

        private final int[] worths = new int[SLOTS];
        private int size;

        Memory() {
            Arrays.fill(worths, NONE);
        }

        int size() {
            return size;
        }

        int recall(int kind, int number, int measure, Counts counts) {
            return worthKnown(kind, number, measure, counts, 0);
        }

        private int worthKnown(int kind, int number, int measure, Counts counts, int depth) {
            if (rests(number, measure)) {
                return restingWorth(kind, number, measure);
            }
            int slot = slotOf(kind, number, measure);
            if (slot == NO_SLOT || depth > DEEPEST) {
                return 0;
            }
            counts.wanted++;
            if (worths[slot] != NONE) {
                counts.found++;
                return worths[slot];
            }
            int worth = sumOfLegs(kind, number, measure, counts, depth + 1);
            keep(kind, number, measure, worth);
            counts.made++;
            return worth;
        }

        private int sumOfLegs(int kind, int n, int m, Counts counts, int depth) {
            boolean odd = m % 2 != 0;
            switch (kind) {
                case 0:
                    return worthKnown(kind, n, m - 1, counts, depth)
                            + worthKnown(kind, n - m, m, counts, depth);
                case 1:
                    return worthKnown(kind, n - 1, m - 1, counts, depth)
                            + worthKnown(kind, n - m, m, counts, depth);
                case 2:
                    return worthKnown(kind, n, m - 1, counts, depth)
                            + worthKnown(kind, n - m, m - 1, counts, depth);
                case 3:
                    return worthKnown(kind, n, m - 1, counts, depth)
                            + (odd ? worthKnown(kind, n - m, m, counts, depth) : 0);
                case 4:
                    return worthKnown(kind, n, m - 1, counts, depth)
                            + (odd ? worthKnown(kind, n - m, m - 1, counts, depth) : 0);
                default:
                    return worthKnown(kind, n - m, m, counts, depth)
                            + worthKnown(kind, n - m, m - 1, counts, depth);
            }
        }

        boolean keeps(int kind, int number, int measure) {
            return keptWorth(kind, number, measure) != NONE;
        }

        int keptWorth(int kind, int number, int measure) {
            int slot = slotOf(kind, number, measure);
            return slot == NO_SLOT ? NONE : worths[slot];
        }

        boolean keepsWith(int kind, int number, int measure, int claim) {
            return keeps(kind, number, measure) && keptWorth(kind, number, measure) == claim;
        }

        void keep(int kind, int number, int measure, int worth) {
            int slot = slotOf(kind, number, measure);
            if (slot == NO_SLOT) {
                return;
            }
            if (worths[slot] == NONE) {
                size++;
            }
            worths[slot] = worth;
        }

        void drop(int kind, int number, int measure) {
            int slot = slotOf(kind, number, measure);
            if (slot != NO_SLOT && worths[slot] != NONE) {
                worths[slot] = NONE;
                size--;
            }
        }

        int dropEach(int what, int value) {
            int dropped = 0;
            for (int slot = 0; slot < SLOTS; slot++) {
                if (worths[slot] != NONE && aspect(slot, what) == value) {
                    worths[slot] = NONE;
                    dropped++;
                }
            }
            size -= dropped;
            return dropped;
        }

        int dropAll() {
            int dropped = size;
            Arrays.fill(worths, NONE);
            size = 0;
            return dropped;
        }

        void become(Memory other) {
            System.arraycopy(other.worths, 0, worths, 0, SLOTS);
            size = other.size;
        }

        int takeIn(Memory other) {
            int added = 0;
            for (int slot = 0; slot < SLOTS; slot++) {
                if (other.worths[slot] != NONE) {
                    if (worths[slot] == NONE) {
                        added++;
                    }
                    worths[slot] = other.worths[slot];
                }
            }
            size += added;
            return added;
        }

        int howMany(int what, int value) {
            int many = 0;
            for (int slot = 0; slot < SLOTS; slot++) {
                if (worths[slot] != NONE && aspect(slot, what) == value) {
                    many++;
                }
            }
            return many;
        }

        int mark() {
            int sum = 0;
            for (int slot = 0; slot < SLOTS; slot++) {
                if (worths[slot] != NONE) {
                    sum += codeOf(slot) ^ worths[slot];
                }
            }
            return sum;
        }

        int sumOfWorths() {
            int sum = 0;
            for (int slot = 0; slot < SLOTS; slot++) {
                if (worths[slot] != NONE) {
                    sum += worths[slot];
                }
            }
            return sum;
        }

        boolean isLike(Memory other) {
            for (int slot = 0; slot < SLOTS; slot++) {
                if (worths[slot] != other.worths[slot]) {
                    return false;
                }
            }
            return true;
        }

        boolean agreesWith(Series series) {
            for (int kind = 0; kind < KEPT_KINDS; kind++) {
                for (int measure = 0; measure <= LARGEST; measure++) {
                    // one row serves all numbers
                    series.reckon(kind, measure);
                    if (!agreesWithRow(kind, measure, series)) {
                        return false;
                    }
                }
            }
            return true;
        }

        private boolean agreesWithRow(int kind, int measure, Series series) {
            for (int number = 0; number <= LARGEST; number++) {
                if (keeps(kind, number, measure)
                        && keptWorth(kind, number, measure)
                                != series.reckoned(kind, number, measure)) {
                    return false;
                }
            }
            return true;
        }

        boolean isWellCounted() {
            int many = 0;
            for (int slot = 0; slot < SLOTS; slot++) {
                if (worths[slot] != NONE) {
                    if (rests(numberOf(slot), measureOf(slot))) {
                        return false;
                    }
                    many++;
                }
            }
            return many == size;
        }

        private int aspect(int slot, int what) {
            switch (what) {
                case 0:
                    return kindOf(slot);
                case 1:
                    return numberOf(slot);
                case 2:
                    return measureOf(slot);
                default:
                    return slot < 0 || slot >= SLOTS ? NONE : worths[slot];
            }
        }

        private static int slotOf(int kind, int number, int measure) {
            if (kind < 0 || kind >= KEPT_KINDS || number < 0 || number > LARGEST
                    || measure < 0 || measure > LARGEST) {
                return NO_SLOT;
            }
            return (kind * SPAN + number) * SPAN + measure;
        }

        private static int kindOf(int slot) {
            return slot / (SPAN * SPAN);
        }

        private static int numberOf(int slot) {
            return slot / SPAN % SPAN;
        }

        private static int measureOf(int slot) {
            return slot % SPAN;
        }

        private static int codeOf(int slot) {
            return kindOf(slot) * 1024 + numberOf(slot) * 32 + measureOf(slot);
        }
    }

    /** A row of numbers that grows factor by factor. */
    private static final class Series {
        private final int[] row = new int[LARGEST + 1];

        int tells(int kind, int number, int measure) {
            reckon(kind, measure);
            return reckoned(kind, number, measure);
        }

        void reckon(int kind, int measure) {
            Arrays.fill(row, 0);
            row[0] = 1;
            int last = kind == 7 ? 2 * measure - 1 : measure;
            boolean onlyOdd = kind == 3 || kind == 4 || kind == 7;
            boolean once = kind == 2 || kind == 4 || kind == 7;
            for (int j = 1; j <= last && j <= LARGEST; j++) {
                if (onlyOdd && j % 2 == 0) {
                    continue;
                }
                if (once) {
                    takeOnce(j);
                } else {
                    takeOften(j);
                }
            }
        }

        int reckoned(int kind, int number, int measure) {
            int spot = number;
            if (kind == 1) {
                spot = number - measure;
            } else if (kind == 5) {
                spot = number - measure * (measure + 1) / 2;
            }
            return spot < 0 || spot >= row.length ? 0 : row[spot];
        }

        private void takeOften(int j) {
            if (j < 1) {
                return;
            }
            for (int e = j; e < row.length; e++) {
                row[e] += row[e - j];
            }
        }

        private void takeOnce(int j) {
            if (j < 1) {
                return;
            }
            for (int e = row.length - 1; e >= j; e--) {
                row[e] += row[e - j];
            }
        }
    }

    /** Some numbers with their worths, reckoned by one rule. */
    private static final class Ledger {
        private final int rule;
        private final int[] worths = new int[LARGEST + 1];
        private int size;

        Ledger(int rule) {
            this.rule = rule;
            Arrays.fill(worths, NONE);
        }

        int size() {
            return size;
        }

        int recall(int number, Counts counts) {
            return worthKnown(number, counts, 0);
        }

        private int worthKnown(int number, Counts counts, int depth) {
            if (number == 0) {
                return 1;
            }
            if (number < 0 || number > LARGEST || depth > DEEPEST) {
                return 0;
            }
            counts.wanted++;
            if (worths[number] != NONE) {
                counts.found++;
                return worths[number];
            }
            int worth = rule == 0
                    ? byPentagons(number, counts, depth + 1)
                    : byDivisors(number, counts, depth + 1);
            worths[number] = worth;
            size++;
            counts.made++;
            return worth;
        }

        private int byPentagons(int number, Counts counts, int depth) {
            int sum = 0;
            for (int j = 1; j <= LARGEST && j * (3 * j - 1) / 2 <= number; j++) {
                int both = worthKnown(number - j * (3 * j - 1) / 2, counts, depth);
                // below 0 is no number to know
                if (j * (3 * j + 1) / 2 <= number) {
                    both += worthKnown(number - j * (3 * j + 1) / 2, counts, depth);
                }
                sum += j % 2 != 0 ? both : -both;
            }
            return sum;
        }

        private int byDivisors(int number, Counts counts, int depth) {
            if (number < 1) {
                return 0;
            }
            int sum = 0;
            for (int j = 1; j <= number; j++) {
                sum += worthKnown(number - j, counts, depth) * sumOfDivisors(j);
            }
            return sum / number;
        }

        private int sumOfDivisors(int j) {
            int step = rule == 2 ? 2 : 1;
            int sum = 0;
            for (int divisor = 1; divisor <= j; divisor += step) {
                if (j % divisor == 0) {
                    sum += divisor;
                }
            }
            return sum;
        }

        boolean keeps(int number) {
            return keptWorth(number) != NONE;
        }

        int keptWorth(int number) {
            return number < 1 || number > LARGEST ? NONE : worths[number];
        }

        void drop(int number) {
            if (number >= 1 && number <= LARGEST && worths[number] != NONE) {
                worths[number] = NONE;
                size--;
            }
        }

        int dropAll() {
            int dropped = size;
            Arrays.fill(worths, NONE);
            size = 0;
            return dropped;
        }

        int mark() {
            int sum = 0;
            for (int number = 1; number <= LARGEST; number++) {
                if (worths[number] != NONE) {
                    sum += number ^ worths[number];
                }
            }
            return sum;
        }
    }

    /** A way, held as how often each part stands in it. */
    private static final class Way {
        private final int[] often = new int[LARGEST + 1];

        int timesOf(int part) {
            return part < 1 || part > LARGEST ? 0 : often[part];
        }

        void put(int part, int more) {
            if (part >= 1 && part <= LARGEST) {
                often[part] += more;
            }
        }

        int sum() {
            int sum = 0;
            for (int part = 1; part <= LARGEST; part++) {
                sum += part * often[part];
            }
            return sum;
        }

        int parts() {
            int parts = 0;
            for (int part = 1; part <= LARGEST; part++) {
                parts += often[part];
            }
            return parts;
        }

        int differentParts() {
            int different = 0;
            for (int part = 1; part <= LARGEST; part++) {
                if (often[part] > 0) {
                    different++;
                }
            }
            return different;
        }

        boolean isUnlike() {
            for (int part = 1; part <= LARGEST; part++) {
                if (often[part] > 1) {
                    return false;
                }
            }
            return true;
        }

        boolean isOdd() {
            for (int part = 2; part <= LARGEST; part += 2) {
                if (often[part] > 0) {
                    return false;
                }
            }
            return true;
        }

        boolean isLike(Way other) {
            for (int part = 1; part <= LARGEST; part++) {
                if (often[part] != other.often[part]) {
                    return false;
                }
            }
            return true;
        }

        private boolean hasNoneAbove(int measure) {
            for (int part = LARGEST; part > measure && part >= 1; part--) {
                if (often[part] > 0) {
                    return false;
                }
            }
            return true;
        }

        private boolean isOwnTurned(Way room) {
            room.becomeTurned(this);
            return isLike(room);
        }

        boolean isOfKind(int kind, int measure, Way room) {
            switch (kind) {
                case 0:
                    return hasNoneAbove(measure);
                case 1:
                    return parts() == measure;
                case 2:
                    return isUnlike() && hasNoneAbove(measure);
                case 3:
                    return isOdd() && hasNoneAbove(measure);
                case 4:
                    return isOdd() && isUnlike() && hasNoneAbove(measure);
                case 5:
                    return isUnlike() && parts() == measure;
                case 6:
                    return parts() <= measure;
                default:
                    return hasNoneAbove(measure) && isOwnTurned(room);
            }
        }

        void become(Way other) {
            System.arraycopy(other.often, 0, often, 0, often.length);
        }

        private void becomeEmpty() {
            Arrays.fill(often, 0);
        }

        void becomeFirst(int number) {
            becomeEmpty();
            put(number, 1);
        }

        void becomeTurned(Way other) {
            becomeEmpty();
            int atLeast = 0;
            for (int part = LARGEST; part >= 1; part--) {
                atLeast += other.often[part];
                // above the greatest part it is 0, and put leaves 0 out
                put(atLeast, 1);
            }
        }

        void becomeUnlike(Way other) {
            becomeEmpty();
            for (int part = 1; part <= LARGEST; part++) {
                int many = other.often[part];
                for (int power = 1; power <= LARGEST; power *= 2) {
                    if ((many & power) != 0) {
                        put(power * part, 1);
                    }
                }
            }
        }

        void becomeOdd(Way other) {
            becomeEmpty();
            for (int part = 1; part <= LARGEST; part++) {
                int power = part & -part;
                if (power > 0) {
                    put(part / power, power * other.often[part]);
                }
            }
        }

        /** Goes on to the next way in order; false, and all stays, where there is none. */
        boolean stepOn() {
            int part = leastAboveOne();
            if (part < 2 || part > LARGEST) {
                return false;
            }
            int lesser = part - 1;
            int rest = part + often[1];
            often[part]--;
            often[1] = 0;
            put(lesser, rest / lesser);
            // nothing left over is a part of 0, and put leaves 0 out
            put(rest % lesser, 1);
            return true;
        }

        private int leastAboveOne() {
            for (int part = 2; part <= LARGEST; part++) {
                if (often[part] > 0) {
                    return part;
                }
            }
            return 0;
        }

        String text() {
            StringBuilder text = new StringBuilder();
            for (int part = LARGEST; part >= 1; part--) {
                for (int left = often[part]; left > 0; left--) {
                    if (text.length() > 0) {
                        text.append('+');
                    }
                    text.append(part);
                }
            }
            return text.toString();
        }
    }
}
