import java.util.ArrayList;
import java.util.Collections;
import java.util.HashMap;
import java.util.List;
import java.util.Map;
import java.util.TreeMap;

/**
 * The document once more, in another form: ways are lists, worths are counted out of all ways,
 * memories are maps from code to worth. The program is compared with it.
 */
final class Reference {
    private static final List<List<List<Integer>>> WAYS = new ArrayList<>();
    // what was counted once, by its code, so that the tests stay quick
    private static final Map<Integer, Integer> COUNTED = new HashMap<>();

    private final List<TreeMap<Integer, Integer>> memories = new ArrayList<>();
    private final List<TreeMap<Integer, Integer>> ledgers = new ArrayList<>();
    private final List<List<Integer>> desks = new ArrayList<>();
    private final int[] tallies = new int[6];

    Reference() {
        for (int i = 0; i < 3; i++) {
            memories.add(new TreeMap<>());
            ledgers.add(new TreeMap<>());
        }
        desks.add(List.of());
        desks.add(List.of());
    }

    // ways and worths

    static List<List<Integer>> ways(int number) {
        while (WAYS.size() <= 20) {
            List<List<Integer>> all = new ArrayList<>();
            extend(new ArrayList<>(), WAYS.size(), WAYS.size(), all);
            WAYS.add(all);
        }
        return WAYS.get(number);
    }

    private static void extend(List<Integer> ahead, int rest, int most, List<List<Integer>> all) {
        if (rest == 0) {
            all.add(List.copyOf(ahead));
        }
        for (int part = Math.min(rest, most); part >= 1; part--) {
            ahead.add(part);
            extend(ahead, rest - part, part, all);
            ahead.remove(ahead.size() - 1);
        }
    }

    static int waysOf(int kind, int number, int measure) {
        return COUNTED.computeIfAbsent(code(kind, number, measure), code -> {
            int many = 0;
            for (List<Integer> way : ways(number)) {
                if (isOf(way, kind, measure)) {
                    many++;
                }
            }
            return many;
        });
    }

    private static boolean isOf(List<Integer> way, int kind, int measure) {
        boolean small = way.isEmpty() || way.get(0) <= measure;
        boolean just = way.size() == measure;
        switch (kind) {
            case 0: return small;
            case 1: return just;
            case 2: return unlike(way) && small;
            case 3: return odd(way) && small;
            case 4: return odd(way) && unlike(way) && small;
            case 5: return unlike(way) && just;
            case 6: return way.size() <= measure;
            default: return turned(way).equals(way) && small;
        }
    }

    private static boolean unlike(List<Integer> way) {
        return way.stream().distinct().count() == way.size();
    }

    private static boolean odd(List<Integer> way) {
        return way.stream().allMatch(part -> part % 2 == 1);
    }

    private static List<Integer> turned(List<Integer> way) {
        List<Integer> row = new ArrayList<>();
        for (int least = 1; !way.isEmpty() && least <= way.get(0); least++) {
            int bound = least;
            row.add((int) way.stream().filter(part -> part >= bound).count());
        }
        return row;
    }

    private static int sum(List<Integer> way) {
        return way.stream().mapToInt(Integer::intValue).sum();
    }

    private static List<Integer> sorted(List<Integer> parts) {
        List<Integer> way = new ArrayList<>(parts);
        way.sort(Collections.reverseOrder());
        return way;
    }

    // tests of arguments

    private static void index(int value, int end) {
        if (value < 0 || value >= end) {
            throw new IndexOutOfBoundsException();
        }
    }

    private static void range(int value, int least, int most) {
        if (value < least || value > most) {
            throw new IllegalArgumentException();
        }
    }

    private static void caseIn(int kind, int number, int measure, int kinds) {
        range(kind, 0, kinds - 1);
        range(number, 0, 20);
        range(measure, 0, 20);
    }

    private TreeMap<Integer, Integer> memory(int memory) {
        index(memory, 3);
        return memories.get(memory);
    }

    private TreeMap<Integer, Integer> book(int rule) {
        index(rule, 3);
        return ledgers.get(rule);
    }

    private int act(int answer) {
        tallies[0]++;
        return answer;
    }

    private int undone() {
        tallies[4]++;
        return -9;
    }

    private static int code(int kind, int number, int measure) {
        return kind * 1024 + number * 32 + measure;
    }

    // to know

    private static int[][] legs(int kind, int n, int m) {
        boolean odd = m % 2 == 1;
        switch (kind) {
            case 0: return new int[][] {{n, m - 1}, {n - m, m}};
            case 1: return new int[][] {{n - 1, m - 1}, {n - m, m}};
            case 2: return new int[][] {{n, m - 1}, {n - m, m - 1}};
            case 3: return odd ? new int[][] {{n, m - 1}, {n - m, m}} : new int[][] {{n, m - 1}};
            case 4: return odd ? new int[][] {{n, m - 1}, {n - m, m - 1}}
                    : new int[][] {{n, m - 1}};
            default: return new int[][] {{n - m, m}, {n - m, m - 1}};
        }
    }

    private void known(TreeMap<Integer, Integer> memory, int kind, int n, int m) {
        if (n <= 0 || m == 0) {
            return;
        }
        tallies[1]++;
        if (memory.containsKey(code(kind, n, m))) {
            tallies[3]++;
            return;
        }
        for (int[] leg : legs(kind, n, m)) {
            known(memory, kind, leg[0], leg[1]);
        }
        memory.put(code(kind, n, m), waysOf(kind, n, m));
        tallies[2]++;
    }

    private void knownBy(int rule, int n) {
        if (n <= 0) {
            return;
        }
        tallies[1]++;
        if (ledgers.get(rule).containsKey(n)) {
            tallies[3]++;
            return;
        }
        int[] all = {1, 2, 3, 4, 5, 6, 7, 8, 9, 10, 11, 12, 13, 14, 15, 16, 17, 18, 19, 20};
        for (int step : rule == 0 ? new int[] {1, 2, 5, 7, 12, 15} : all) {
            knownBy(rule, n - step);
        }
        ledgers.get(rule).put(n, waysOf(rule == 2 ? 3 : 0, n, 20));
        tallies[2]++;
    }

    // the face

    int know(int memory, int kind, int number, int measure) {
        TreeMap<Integer, Integer> kept = memory(memory);
        caseIn(kind, number, measure, 6);
        known(kept, kind, number, measure);
        return act(waysOf(kind, number, measure));
    }

    int few(int memory, int number, int measure) {
        TreeMap<Integer, Integer> kept = memory(memory);
        caseIn(1, number, measure, 6);
        for (int m = 0; m <= measure; m++) {
            known(kept, 1, number, m);
        }
        return act(waysOf(6, number, measure));
    }

    int surplus(int memory, int number) {
        TreeMap<Integer, Integer> kept = memory(memory);
        range(number, 0, 20);
        int sum = 0;
        for (int m = 0; m <= number; m++) {
            known(kept, 5, number, m);
            sum += waysOf(5, number, m) * (m % 2 == 0 ? 1 : -1);
        }
        return act(sum);
    }

    int place(int memory, int desk) {
        TreeMap<Integer, Integer> kept = memory(memory);
        index(desk, 2);
        List<Integer> way = desks.get(desk);
        int rest = sum(way);
        int before = rest;
        for (int part : way) {
            known(kept, 0, rest, before);
            known(kept, 0, rest, part);
            rest -= part;
            before = part;
        }
        return act(ways(sum(way)).indexOf(way));
    }

    int learn(int memory, int kind, int number, int measure) {
        TreeMap<Integer, Integer> kept = memory(memory);
        caseIn(kind, number, measure, 6);
        if (number == 0 || measure == 0) {
            return undone();
        }
        int worth = waysOf(kind, number, measure);
        return act(kept.putIfAbsent(code(kind, number, measure), worth) == null ? 1 : 0);
    }

    int relearn(int memory, int kind, int number, int measure) {
        TreeMap<Integer, Integer> kept = memory(memory);
        caseIn(kind, number, measure, 6);
        Integer worth = kept.get(code(kind, number, measure));
        return worth == null ? undone() : act(worth);
    }

    int forget(int memory, int kind, int number, int measure) {
        TreeMap<Integer, Integer> kept = memory(memory);
        caseIn(kind, number, measure, 6);
        Integer worth = kept.remove(code(kind, number, measure));
        return worth == null ? undone() : act(worth);
    }

    int forgetIf(int memory, int kind, int number, int measure, int claim) {
        TreeMap<Integer, Integer> kept = memory(memory);
        caseIn(kind, number, measure, 6);
        return act(kept.remove(code(kind, number, measure), claim) ? 1 : 0);
    }

    private static int aspect(int code, int worth, int what) {
        int[] all = {code / 1024, code / 32 % 32, code % 32, worth};
        return all[what];
    }

    int forgetAll(int memory, int what, int value) {
        TreeMap<Integer, Integer> kept = memory(memory);
        range(what, 0, 3);
        int many = kept.size();
        kept.entrySet().removeIf(e -> aspect(e.getKey(), e.getValue(), what) == value);
        return act(many - kept.size());
    }

    int clear(int memory) {
        TreeMap<Integer, Integer> kept = memory(memory);
        int many = kept.size();
        kept.clear();
        return act(many);
    }

    int copy(int memory, int into) {
        TreeMap<Integer, Integer> from = memory(memory);
        index(into, 3);
        memories.set(into, new TreeMap<>(from));
        return act(from.size());
    }

    int pour(int memory, int into) {
        TreeMap<Integer, Integer> from = memory(memory);
        TreeMap<Integer, Integer> to = memory(into);
        if (memory == into) {
            return undone();
        }
        int many = to.size();
        to.putAll(from);
        return act(to.size() - many);
    }

    boolean isKept(int memory, int kind, int number, int measure, int making) {
        TreeMap<Integer, Integer> kept = memory(memory);
        caseIn(kind, number, measure, 6);
        range(making, 0, 2);
        return kept.containsKey(code(kind, number, measure));
    }

    int worthOr(int memory, int kind, int number, int measure, int fallback) {
        TreeMap<Integer, Integer> kept = memory(memory);
        caseIn(kind, number, measure, 6);
        return kept.getOrDefault(code(kind, number, measure), fallback);
    }

    boolean confirm(int memory, int kind, int number, int measure, int claim) {
        TreeMap<Integer, Integer> kept = memory(memory);
        caseIn(kind, number, measure, 6);
        Integer worth = kept.get(code(kind, number, measure));
        return worth != null && worth == claim;
    }

    private static int mark(TreeMap<Integer, Integer> kept) {
        return kept.entrySet().stream().mapToInt(e -> e.getKey() ^ e.getValue()).sum();
    }

    int about(int memory, int which) {
        TreeMap<Integer, Integer> kept = memory(memory);
        range(which, 0, 3);
        int worths = kept.values().stream().mapToInt(Integer::intValue).sum();
        int[] all = {kept.size(), mark(kept), worths, kept.isEmpty() ? 1 : 0};
        return all[which];
    }

    boolean has(int memory, int claim) {
        return memory(memory).containsValue(claim);
    }

    int count(int memory, int what, int value) {
        TreeMap<Integer, Integer> kept = memory(memory);
        range(what, 0, 3);
        return (int) kept.entrySet().stream()
                .filter(e -> aspect(e.getKey(), e.getValue(), what) == value).count();
    }

    boolean isSame(int memory, int against) {
        return memory(memory).equals(memory(against));
    }

    int walk(int kind, int number, int measure) {
        caseIn(kind, number, measure, 8);
        return waysOf(kind, number, measure);
    }

    int product(int kind, int number, int measure) {
        caseIn(kind, number, measure, 8);
        return waysOf(kind, number, measure);
    }

    int rule(int rule, int number) {
        index(rule, 3);
        range(number, 0, 20);
        knownBy(rule, number);
        return act(waysOf(rule == 2 ? 2 : 0, number, 20));
    }

    int forgetRule(int rule, int number) {
        TreeMap<Integer, Integer> kept = book(rule);
        range(number, 0, 20);
        if (number == 0) {
            int many = kept.size();
            kept.clear();
            return act(many);
        }
        Integer worth = kept.remove(number);
        return worth == null ? undone() : act(worth);
    }

    int ledger(int rule, int which) {
        TreeMap<Integer, Integer> kept = book(rule);
        range(which, 0, 1);
        return which == 0 ? kept.size() : mark(kept);
    }

    int ruleWorth(int rule, int number, int making) {
        TreeMap<Integer, Integer> kept = book(rule);
        range(number, 0, 20);
        range(making, 0, 1);
        return kept.getOrDefault(number, -1);
    }

    private List<Integer> desk(int desk) {
        index(desk, 2);
        return desks.get(desk);
    }

    int addPart(int desk, int part, int times) {
        List<Integer> parts = new ArrayList<>(desk(desk));
        range(part, 1, 20);
        range(times, 1, 20);
        parts.addAll(Collections.nCopies(times, part));
        if (sum(parts) > 20) {
            return undone();
        }
        desks.set(desk, sorted(parts));
        return act(Collections.frequency(parts, part));
    }

    int takePart(int desk, int part) {
        List<Integer> parts = new ArrayList<>(desk(desk));
        range(part, 1, 20);
        if (!parts.remove((Object) part)) {
            return undone();
        }
        desks.set(desk, parts);
        return act(Collections.frequency(parts, part));
    }

    int layFirst(int desk, int number) {
        desk(desk);
        range(number, 0, 20);
        desks.set(desk, ways(number).get(0));
        return act(desk(desk).size());
    }

    int next(int desk) {
        List<List<Integer>> all = ways(sum(desk(desk)));
        int at = all.indexOf(desk(desk)) + 1;
        if (at == all.size()) {
            return undone();
        }
        desks.set(desk, all.get(at));
        return act(desk(desk).size());
    }

    int turn(int desk) {
        List<Integer> was = desk(desk);
        desks.set(desk, turned(was));
        return act(desk(desk).equals(was) ? 0 : 1);
    }

    int toUnlike(int desk) {
        List<Integer> was = desk(desk);
        if (!odd(was)) {
            return undone();
        }
        List<Integer> parts = new ArrayList<>(was);
        boolean merged = true;
        // two alike become their sum until none are alike: the same as the powers of two
        while (merged) {
            merged = false;
            for (int part = 1; part <= 20; part++) {
                if (Collections.frequency(parts, part) > 1) {
                    parts.remove((Object) part);
                    parts.remove((Object) part);
                    parts.add(2 * part);
                    merged = true;
                }
            }
        }
        desks.set(desk, sorted(parts));
        return act(parts.size());
    }

    int toOdd(int desk) {
        List<Integer> was = desk(desk);
        if (!unlike(was)) {
            return undone();
        }
        List<Integer> parts = new ArrayList<>(was);
        for (int at = 0; at < parts.size(); at++) {
            while (parts.get(at) % 2 == 0) {
                int half = parts.get(at) / 2;
                parts.set(at, half);
                parts.add(half);
            }
        }
        desks.set(desk, sorted(parts));
        return act(parts.size());
    }

    int copyDesk(int desk) {
        List<Integer> was = desk(desk);
        desks.set(1 - desk, was);
        return act((int) was.stream().distinct().count());
    }

    int times(int desk, int part) {
        List<Integer> way = desk(desk);
        range(part, 1, 20);
        return Collections.frequency(way, part);
    }

    int way(int desk, int which) {
        List<Integer> way = desk(desk);
        range(which, 0, 2);
        int[] all = {sum(way), way.size(), (int) way.stream().distinct().count()};
        return all[which];
    }

    String wayText(int desk) {
        return String.join("+", desk(desk).stream().map(String::valueOf).toList());
    }

    boolean isOf(int desk, int kind, int measure) {
        List<Integer> way = desk(desk);
        caseIn(kind, 0, measure, 8);
        return isOf(way, kind, measure);
    }

    boolean isSameWay() {
        return desks.get(0).equals(desks.get(1));
    }

    int tally(int what) {
        range(what, 0, 5);
        return tallies[what];
    }

    int knock() {
        return ++tallies[5];
    }

    boolean isSound(int memory) {
        memory(memory);
        return true;
    }

    long digest() {
        List<Integer> values = new ArrayList<>();
        for (TreeMap<Integer, Integer> kept : memories) {
            values.add(kept.size());
            values.add(mark(kept));
        }
        for (TreeMap<Integer, Integer> kept : ledgers) {
            values.add(kept.size());
            values.add(mark(kept));
        }
        for (List<Integer> way : desks) {
            values.add(sum(way));
            values.add(way.size());
            for (int part = 1; part <= 20; part++) {
                values.add(Collections.frequency(way, part));
            }
        }
        for (int tally : tallies) {
            values.add(tally);
        }
        long d = 7978;
        for (int value : values) {
            d = d * 31 + value;
        }
        return d;
    }
}
