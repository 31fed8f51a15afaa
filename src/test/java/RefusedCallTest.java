import java.util.ArrayList;
import java.util.List;

/**
 * "A call that throws changes nothing": every kind of refused call, on an empty table and on others,
 * throws what is due, and all that the table tells behind it is what it tells without that call.
 */
public final class RefusedCallTest extends Checks {
    private static final int TABLES = 5;
    private static final int[] LENGTHS = {-1, 33, -2, 34, 64, -32, LOW, HIGH};
    private static final int[] ORIGINS = {-1, 8, -2, 9, -8, 16, LOW, HIGH};
    private static final int[] COSTS = {-1, 65536, -65536, LOW, HIGH};
    private static final int[] HOPS = {-1, 64, -64, 65, LOW, HIGH};
    private static final int[] WHATS = {-1, 3, LOW, HIGH};
    private static final int[] LIMITS = {-1, 34, LOW, HIGH};
    // Some that the tables know, some that they don't.
    private static final int[][] PREFIXES = {{0, 0}, {-1, 32}, {LOW, 1}, {ip(10, 1, 0, 0), 16}, {1 << 30, 2}};

    private interface Refused {
        void make(PrefixBench table);
    }

    private record Case(String name, Refused call) {
    }

    private static final List<Case> CASES = new ArrayList<>();

    public static void main(String[] args) {
        allIsTold();
        wrongLengths();
        bitsBehindTheLength();
        wrongOrigins();
        wrongCostsAndHops();
        wrongCuts();
        wrongWhats();
        wrongLimits();
        severalWrong();
        for (int kind = 0; kind < TABLES; kind++) {
            eachChangesNothing(kind);
            allChangeNothing(kind);
        }
        aRefusedCallLeavesAFullTable();
        end("RefusedCallTest");
    }

    // What the others rest on: emptied() tells of every route.
    private static void allIsTold() {
        due("emptied", emptied(sample()), "7 6 7\n"
                + "ffffffff/32 of 0: 1 4\n"
                + "a010200/24 of 1: 10 8\n"
                + "a010400/24 of 1: 10 10\n"
                + "a010000/16 of 2: 20 6\n"
                + "a010000/16 of 5: 50 ffffffffffffffff\n"
                + "a000000/8 of 1: 100 3\n"
                + "0/0 of 7: 9 1\n"
                + "0\n");
        due("emptied, of none", emptied(new PrefixBench()), "0 0 0\n0\n");
    }

    private static void add(String name, Refused call) {
        CASES.add(new Case(name, call));
    }

    private static void addWrongPrefix(int address, int length) {
        String prefix = Integer.toHexString(address) + "/" + length;
        add("put " + prefix, t -> t.put(address, length, 1, 3, 5));
        add("take " + prefix, t -> t.take(address, length, 1));
        add("route " + prefix, t -> t.route(address, length, 1, 0));
        add("best route " + prefix, t -> t.route(address, length, -1, 2));
        add("after " + prefix, t -> t.after(address, length));
        add("within " + prefix, t -> t.within(address, length));
    }

    private static void wrongLengths() {
        for (int length : LENGTHS) {
            addWrongPrefix(0, length);
            addWrongPrefix(LOW, length);
            addWrongPrefix(-1, length);
        }
    }

    private static void bitsBehindTheLength() {
        for (int length = 0; length < 32; length++) {
            addWrongPrefix(1, length);
            addWrongPrefix(1 << (31 - length), length);
            addWrongPrefix(-1, length);
        }
    }

    private static void wrongOrigins() {
        for (int origin : ORIGINS) {
            add("drop " + origin, t -> t.drop(origin));
            for (int[] prefix : PREFIXES) {
                add("put origin " + origin, t -> t.put(prefix[0], prefix[1], origin, 3, 5));
                add("take origin " + origin, t -> t.take(prefix[0], prefix[1], origin));
                if (origin != -1) {
                    add("route origin " + origin, t -> t.route(prefix[0], prefix[1], origin, 1));
                }
            }
        }
    }

    private static void wrongCostsAndHops() {
        for (int[] prefix : PREFIXES) {
            for (int origin = 0; origin <= 7; origin++) {
                int of = origin;
                for (int cost : COSTS) {
                    add("put cost " + cost, t -> t.put(prefix[0], prefix[1], of, cost, 5));
                }
                add("put no hops", t -> t.put(prefix[0], prefix[1], of, 3, 0L));
            }
        }
    }

    private static void wrongCuts() {
        for (int hop : HOPS) {
            add("cut " + hop, t -> t.cut(hop));
        }
    }

    private static void wrongWhats() {
        for (int what : WHATS) {
            for (int[] prefix : PREFIXES) {
                for (int origin = -1; origin <= 7; origin++) {
                    int of = origin;
                    add("route what " + what, t -> t.route(prefix[0], prefix[1], of, what));
                }
            }
        }
    }

    private static void wrongLimits() {
        for (int limit : LIMITS) {
            add("shorter " + limit, t -> t.shorter(0, limit));
            add("shorter " + limit, t -> t.shorter(-1, limit));
        }
    }

    private static void severalWrong() {
        add("put all wrong", t -> t.put(-1, 33, 8, 65536, 0L));
        add("put cost and hops wrong", t -> t.put(0, 0, 0, -1, 0L));
        add("take all wrong", t -> t.take(LOW, -1, -1));
        add("route all wrong", t -> t.route(1, 31, 8, 3));
    }

    private static PrefixBench table(int kind) {
        PrefixBench table = kind == 4 ? sample() : new PrefixBench();
        if (kind == 1 || kind == 2) {
            table.put(0, 0, 0, 0, 1L);
        }
        if (kind == 2 || kind == 3) {
            table.put(-1, 32, 7, 65535, -1L);
            table.put(LOW, 1, 1, 7, Long.MIN_VALUE);
        }
        if (kind == 3) {
            for (int origin = 0; origin <= 7; origin++) {
                table.put(ip(10, 1, 0, 0), 16, origin, origin, 1L << origin | 1L << 63);
                table.put(1 << 30, 2, origin, 65535 - origin, 1L << (63 - origin));
            }
        }
        return table;
    }

    private static void eachChangesNothing(int kind) {
        String want = emptied(table(kind));
        for (Case refused : CASES) {
            PrefixBench table = table(kind);
            illegal(refused.name, () -> refused.call.make(table));
            due("what stands behind " + refused.name, emptied(table), want);
        }
    }

    private static void allChangeNothing(int kind) {
        String want = emptied(table(kind));
        for (int from = 0; from < CASES.size(); from += 200) {
            PrefixBench table = table(kind);
            for (Case refused : CASES.subList(from, Math.min(from + 200, CASES.size()))) {
                illegal(refused.name, () -> refused.call.make(table));
            }
            due("what stands behind refused calls from " + from, emptied(table), want);
        }
    }

    private static void aRefusedCallLeavesAFullTable() {
        for (Case refused : CASES) {
            PrefixBench table = new PrefixBench();
            for (int i = 0; i < 500; i++) {
                table.put(i / 4 << 25, 7, i % 4, i, i + 1);
            }
            illegal(refused.name, () -> refused.call.make(table));
            dueCounts("full behind " + refused.name, table, 500, 125, 249);
            due("the first", table.route(0, 7, 0, 0), 0);
            due("the last", table.route(124 << 25, 7, 3, 0), 499);
            due("one between", table.route(62 << 25, 7, 1, 0), 249);
            due("its best's hops", table.hops(62 << 25), 249);
            due("the whole order's end", table.after(124 << 25, 7), -1);
            due("all", table.within(0, 0), 125);
            due("one more route", table.put(-1, 32, 0, 0, 1), 501);
        }
    }
}
