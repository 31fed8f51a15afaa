/**
 * "An object is used for at most 512 calls", "rows that grow by doubling, to 2048 places at most, and
 * are used again", "There are at most 1000 routes": the table as full as the calls allow, and where
 * its rows grow.
 */
public final class FullTableTest extends Checks {
    private static final int CALLS = 512;
    private static final int MOST = 1000;

    /** The n-th prefix that is put, of 512 in order. */
    private interface Order {
        int nth(int n);
    }

    public static void main(String[] args) {
        Order[] orders = {n -> n, n -> 511 - n, n -> n * 77 % 512, n -> n % 2 == 0 ? n / 2 : 511 - n / 2};
        for (Order order : orders) {
            each512CallsCanPut(order);
            the512thCallAnswers(order);
        }
        the512thCallIsRefused();
        rowsHoldWhereTheyGrow();
        manyOriginsFillTheTable();
        rowsAreUsedAgainBehindDrop();
        rowsAreUsedAgainBehindCut();
        rowsAreUsedAgainBehindTake();
        the1000thRouteStandsAndNoOther();
        thereIsRoomWhereOneWent();
        end("FullTableTest");
    }

    private static int address(int i) {
        return i << 23;
    }

    private static PrefixBench filled(Order order, int size) {
        PrefixBench table = new PrefixBench();
        for (int n = 0; n < size; n++) {
            int i = order.nth(n);
            due("put " + n, table.put(address(i), 9, i % 8, i, i + 1), n + 1);
        }
        return table;
    }

    private static void each512CallsCanPut(Order order) {
        filled(order, CALLS);
    }

    private static void the512thCallAnswers(Order order) {
        int last = order.nth(CALLS - 1);
        int one = order.nth(300);
        due("routes", filled(order, CALLS - 1).routes(), 511);
        due("known", filled(order, CALLS - 1).known(), 511);
        due("nodes", filled(order, CALLS - 1).nodes(), 1021);
        due("within", filled(order, CALLS - 1).within(0, 0), 511);
        due("look", filled(order, CALLS - 1).look(address(one) + 5), 9);
        due("look at the one not put", filled(order, CALLS - 1).look(address(last)), -1);
        due("hops", filled(order, CALLS - 1).hops(address(one)), one + 1);
        due("hop", filled(order, CALLS - 1).hop(address(one), 0), Integer.numberOfTrailingZeros(one + 1));
        due("shorter", filled(order, CALLS - 1).shorter(address(one), 9), -1);
        due("shorter, 10", filled(order, CALLS - 1).shorter(address(one), 10), 9);
        due("after", filled(order, CALLS - 1).after(address(last), 9),
                last == 511 ? -1 : code(address(last + 1), 9));
        due("route", filled(order, CALLS - 1).route(address(one), 9, -1, 0), one);
        due("take", filled(order, CALLS - 1).take(address(one), 9, one % 8), true);
        due("take of the one not put", filled(order, CALLS - 1).take(address(last), 9, last % 8), false);
        due("drop", filled(order, CALLS - 1).drop((last + 1) % 8), 64);
        due("drop, with the one not put", filled(order, CALLS - 1).drop(last % 8), 63);
        due("cut", filled(order, CALLS - 1).cut(9), last == 511 ? 0 : 1);
        due("put again", filled(order, CALLS - 1).put(address(one), 9, one % 8, 0, 1), 511);
    }

    private static void the512thCallIsRefused() {
        PrefixBench[] tables = new PrefixBench[7];
        for (int i = 0; i < tables.length; i++) {
            tables[i] = filled(n -> n, CALLS - 1);
        }
        illegal("put", () -> tables[0].put(0, 33, 0, 0, 1));
        illegal("take", () -> tables[1].take(0, 33, 0));
        illegal("drop", () -> tables[2].drop(8));
        illegal("cut", () -> tables[3].cut(64));
        illegal("route", () -> tables[4].route(0, 0, 0, 3));
        illegal("after", () -> tables[5].after(1, 0));
        illegal("within", () -> tables[6].within(1, 0));
        illegal("shorter", () -> filled(n -> n, CALLS - 1).shorter(0, 34));
    }

    private static void rowsHoldWhereTheyGrow() {
        int[] sizes = {1, 2, 3, 4, 5, 7, 8, 9, 15, 16, 17, 31, 32, 33, 63, 64, 65, 127, 128, 129};
        for (int size : sizes) {
            PrefixBench table = filled(n -> size - 1 - n, size);
            dueCounts("of " + size, table, size, size, 2 * size - 1);
            for (int i = 0; i < size; i++) {
                due("cost of " + i + " of " + size, table.route(address(i), 9, i % 8, 0), i);
                due("hops of " + i + " of " + size, table.hops(address(i)), i + 1);
            }
            due("behind the last of " + size, table.look(address(size)), -1);
        }
        int[] large = {255, 256, 257, 500};
        for (int size : large) {
            PrefixBench table = filled(n -> size - 1 - n, size);
            dueCounts("of " + size, table, size, size, 2 * size - 1);
            due("the first of " + size, table.hops(address(0)), 1);
            due("the last of " + size, table.hops(address(size - 1)), size);
            due("the last's cost of " + size, table.route(address(size - 1), 9, -1, 0), size - 1);
            due("the last's origin of " + size, table.route(address(size - 1), 9, -1, 1), (size - 1) % 8);
            due("behind the last of " + size, table.look(address(size)), -1);
        }
    }

    private static void manyOriginsFillTheTable() {
        PrefixBench table = new PrefixBench();
        for (int i = 0; i < 504; i++) {
            due("put " + i, table.put(i / 8 << 26, 6, 7 - i % 8, i, 1L << i % 8), i + 1);
        }
        dueCounts("of 8 origins", table, 504, 63, 125);
        due("drop one origin", table.drop(3), 63);
        due("cut another", table.cut(7), 63);
        dueCounts("of 6 origins", table, 378, 63, 125);
    }

    private static void rowsAreUsedAgainBehindDrop() {
        PrefixBench table = new PrefixBench();
        for (int round = 0; round < 7; round++) {
            for (int i = 0; i < 65; i++) {
                due("round " + round, table.put(address(i), 9, round, round, 1L << round), i + 1);
            }
            due("one of the round", table.route(address(64), 9, -1, 0), round);
            due("drop the round", table.drop(round), 65);
            due("behind the round", table.routes() + table.known() + table.nodes(), 0);
            due("its hops have gone", table.hops(address(3)), 0);
        }
    }

    private static void rowsAreUsedAgainBehindCut() {
        PrefixBench table = new PrefixBench();
        for (int round = 0; round < 7; round++) {
            for (int i = 64; i >= 0; i--) {
                table.put(address(i), 9, 0, 0, i % 5 == 0 ? 3L << 2 * round : 1L << 2 * round);
            }
            due("cut the round", table.cut(2 * round), 52);
            due("thirteen have another hop", table.known(), 13);
            due("cut their other hop", table.cut(2 * round + 1), 13);
            due("behind the round", table.routes() + table.known() + table.nodes(), 0);
        }
    }

    private static void rowsAreUsedAgainBehindTake() {
        PrefixBench table = new PrefixBench();
        for (int i = 0; i < 17; i++) {
            table.put(address(i), 9, 0, i, 1);
        }
        for (int i = 17; i < 200; i++) {
            due("take " + (i - 17), table.take(address(i - 17), 9, 0), true);
            due("put " + i, table.put(address(i), 9, 0, i, 1), 17);
        }
        dueCounts("as many as before", table, 17, 17, 33);
        due("the first that is left", table.after(0, 0), code(address(183), 9));
        due("the last", table.route(address(199), 9, 0, 0), 199);
        due("one that has gone", table.look(address(182)), -1);
    }

    // The document leaves free what calls behind the 512th answer, so no table gets as full within
    // what it promises; the two tests below hold "illegal state: there are 1000" all the same.

    private static PrefixBench brimful() {
        PrefixBench table = new PrefixBench();
        for (int i = 0; i < MOST; i++) {
            due("put route " + i, table.put(i / 8 << 25, 7, i % 8, i, i + 1), i + 1);
        }
        return table;
    }

    private static void the1000thRouteStandsAndNoOther() {
        PrefixBench table = brimful();
        state("put a new prefix", () -> table.put(-1, 32, 0, 0, 1));
        state("put the least prefix", () -> table.put(0, 0, 0, 0, 1));
        state("put another length", () -> table.put(0, 8, 0, 0, 1));
        illegal("put a wrong length", () -> table.put(0, 33, 0, 0, 1));
        illegal("put a wrong origin", () -> table.put(0, 0, 8, 0, 1));
        illegal("put a wrong cost", () -> table.put(0, 0, 0, 65536, 1));
        illegal("put no hops", () -> table.put(0, 0, 0, 0, 0));
        dueCounts("behind them", table, MOST, 125, 249);
        for (int i = 0; i < MOST; i++) {
            due("route " + i, table.route(i / 8 << 25, 7, i % 8, 0), i);
            due("put " + i + " again", table.put(i / 8 << 25, 7, i % 8, i + 1, 1), MOST);
            due("route " + i + ", put again", table.route(i / 8 << 25, 7, i % 8, 0), i + 1);
        }
    }

    private static void thereIsRoomWhereOneWent() {
        PrefixBench table = brimful();
        due("take one", table.take(0, 7, 0), true);
        due("put another", table.put(-1, 32, 0, 0, 1L << 63), MOST);
        state("put what was taken", () -> table.put(0, 7, 0, 0, 1));
        due("cut the other", table.cut(63), 1);
        due("put what was taken", table.put(0, 7, 0, 0, 1), MOST);
        state("put the other", () -> table.put(-1, 32, 0, 0, 1));
        due("drop an origin", table.drop(7), 125);
        due("put the other", table.put(-1, 32, 0, 0, 1), MOST - 124);
    }
}
