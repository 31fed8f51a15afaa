/** For each promise of the document: ordinary inputs, the edges that it names, and wrong inputs. */
public final class PromiseTest extends Checks {
    public static void main(String[] args) {
        newObject();
        put();
        putInFullTable();
        take();
        drop();
        cut();
        route();
        look();
        hops();
        hop();
        shorter();
        after();
        within();
        routes();
        known();
        nodes();
        rowsAreUsedAgain();
        end("PromiseTest");
    }

    // Promise 1

    private static void newObject() {
        PrefixBench table = new PrefixBench();
        due("NONE", PrefixBench.NONE, -1);
        dueCounts("new", table, 0, 0, 0);
        due("new look(0)", table.look(0), -1);
        due("new look(-1)", table.look(-1), -1);
        due("new hops(0)", table.hops(0), 0);
        due("new hop(0, 0)", table.hop(0, 0), -1);
        due("new hop(5, -1)", table.hop(5, -1), -1);
        due("new shorter(0, 33)", table.shorter(0, 33), -1);
        due("new after(0, 0)", table.after(0, 0), -1);
        due("new within(0, 0)", table.within(0, 0), 0);
        due("new route(0, 0, -1, 0)", table.route(0, 0, -1, 0), -1);
        due("new drop(0)", table.drop(0), 0);
        due("new cut(63)", table.cut(63), 0);
        due("new take(0, 0, 0)", table.take(0, 0, 0), false);
        PrefixBench other = new PrefixBench();
        other.put(0, 0, 0, 0, 1);
        dueCounts("another object's route", table, 0, 0, 0);
    }

    // Promise 2

    private static void put() {
        PrefixBench table = new PrefixBench();
        due("put 0/0", table.put(0, 0, 0, 0, 1), 1);
        due("put -1/32", table.put(-1, 32, 7, 65535, LOW), 2);
        due("put 10.0.0.0/8", table.put(ip(10, 0, 0, 0), 8, 3, 9, 6), 3);
        due("put it of another origin", table.put(ip(10, 0, 0, 0), 8, 4, 9, 6), 4);
        due("put it of an origin again", table.put(ip(10, 0, 0, 0), 8, 3, 11, -1L), 4);
        due("its cost is the new one", table.route(ip(10, 0, 0, 0), 8, 3, 0), 11);
        due("its hops are the new ones", table.route(ip(10, 0, 0, 0), 8, 3, 2), 64);
        due("the other origin's cost stays", table.route(ip(10, 0, 0, 0), 8, 4, 0), 9);
        due("put 10.0.0.0/9, of the same address", table.put(ip(10, 0, 0, 0), 9, 3, 1, 1), 5);
        due("put 10.0.0.0/8 of origin 3 stays", table.route(ip(10, 0, 0, 0), 8, 3, 0), 11);
        due("put hops of bit 63 alone", table.put(LOW, 1, 0, 0, Long.MIN_VALUE), 6);
        due("route of bit 63 alone", table.route(LOW, 1, 0, 2), 1);
        putRefuses(table);
        dueCounts("put that throws changes nothing", table, 6, 5, 5);
        due("nor the route it names", table.route(ip(10, 0, 0, 0), 8, 3, 0), 11);
    }

    private static void putRefuses(PrefixBench table) {
        illegal("put length -1", () -> table.put(0, -1, 0, 0, 1));
        illegal("put length 33", () -> table.put(0, 33, 0, 0, 1));
        illegal("put length least", () -> table.put(0, LOW, 0, 0, 1));
        illegal("put length most", () -> table.put(0, HIGH, 0, 0, 1));
        illegal("put bits behind 0", () -> table.put(LOW, 0, 0, 0, 1));
        illegal("put bits behind 31", () -> table.put(1, 31, 0, 0, 1));
        illegal("put bits behind 1", () -> table.put(ip(192, 0, 0, 0), 1, 0, 0, 1));
        illegal("put origin -1", () -> table.put(ip(10, 0, 0, 0), 8, -1, 0, 1));
        illegal("put origin 8", () -> table.put(ip(10, 0, 0, 0), 8, 8, 0, 1));
        illegal("put cost -1", () -> table.put(ip(10, 0, 0, 0), 8, 3, -1, 1));
        illegal("put cost 65536", () -> table.put(ip(10, 0, 0, 0), 8, 3, 65536, 1));
        illegal("put no hops", () -> table.put(ip(10, 0, 0, 0), 8, 3, 5, 0));
    }

    // The document leaves free what calls behind the 512th answer, so the table can't be filled up
    // within what it promises; this holds the limit all the same.
    private static void putInFullTable() {
        PrefixBench table = new PrefixBench();
        for (int i = 0; i < 1000; i++) {
            due("put route " + i, table.put(i << 12, 20, i & 7, i, 1), i + 1);
        }
        state("put route 1000", () -> table.put(1000 << 12, 20, 0, 0, 1));
        state("put of another origin", () -> table.put(0, 20, 1, 0, 1));
        illegal("put a wrong one in a full table", () -> table.put(0, 33, 0, 0, 1));
        due("full routes()", table.routes(), 1000);
        due("put one of the 1000", table.put(5 << 12, 20, 5, 77, 3), 1000);
        due("it is the new one", table.route(5 << 12, 20, 5, 0), 77);
        due("the last one stands", table.route(999 << 12, 20, 7, 0), 999);
        due("take one", table.take(0, 20, 0), true);
        due("put in its place", table.put(1000 << 12, 20, 0, 0, 1), 1000);
        state("put, full again", () -> table.put(0, 20, 0, 0, 1));
    }

    // Promise 3

    private static void take() {
        PrefixBench table = sample();
        due("take one of two origins", table.take(ip(10, 1, 0, 0), 16, 2), true);
        due("take it again", table.take(ip(10, 1, 0, 0), 16, 2), false);
        due("the other origin is best", table.route(ip(10, 1, 0, 0), 16, -1, 1), 5);
        due("take of no such origin", table.take(0, 0, 6), false);
        due("take of no such length", table.take(ip(10, 0, 0, 0), 9, 1), false);
        due("take of no such address", table.take(ip(12, 0, 0, 0), 8, 1), false);
        dueCounts("take", table, 6, 6, 7);
        due("take 0/0", table.take(0, 0, 7), true);
        due("take -1/32", table.take(-1, 32, 0), true);
        dueCounts("take more", table, 4, 4, 5);
        illegal("take length -1", () -> table.take(0, -1, 0));
        illegal("take length 33", () -> table.take(0, 33, 0));
        illegal("take bits behind", () -> table.take(ip(10, 1, 0, 0), 15, 1));
        illegal("take origin -1", () -> table.take(ip(10, 0, 0, 0), 8, -1));
        illegal("take origin 8", () -> table.take(ip(10, 0, 0, 0), 8, 8));
        dueCounts("take that throws", table, 4, 4, 5);
    }

    // Promise 4

    private static void drop() {
        PrefixBench table = sample();
        due("drop an origin with no routes", table.drop(6), 0);
        due("drop origin 1", table.drop(1), 3);
        due("drop origin 1 again", table.drop(1), 0);
        dueCounts("drop", table, 4, 3, 3);
        due("dropped", table.route(ip(10, 0, 0, 0), 8, 1, 0), -1);
        due("not dropped", table.route(ip(10, 1, 0, 0), 16, 5, 0), 50);
        due("drop origin 7", table.drop(7), 1);
        due("drop origin 0", table.drop(0), 1);
        illegal("drop -1", () -> table.drop(-1));
        illegal("drop 8", () -> table.drop(8));
        illegal("drop least", () -> table.drop(LOW));
        dueCounts("drop that throws", table, 2, 1, 1);
        due("drop origin 2", table.drop(2), 1);
        due("drop origin 5", table.drop(5), 1);
        dueCounts("drop all", table, 0, 0, 0);
    }

    // Promise 5

    private static void cut() {
        PrefixBench table = new PrefixBench();
        table.put(0, 0, 0, 1, 1L);
        table.put(0, 1, 0, 2, 3L);
        table.put(0, 1, 1, 3, 1L);
        table.put(LOW, 1, 0, 4, Long.MIN_VALUE | 1L << 32);
        table.put(-1, 32, 0, 5, Long.MIN_VALUE);
        due("cut a hop of none", table.cut(5), 0);
        due("cut hop 31, not 63", table.cut(31), 0);
        dueCounts("cut none", table, 5, 4, 4);
        due("cut hop 0", table.cut(0), 2);
        due("cut it again", table.cut(0), 0);
        dueCounts("cut", table, 3, 3, 4);
        due("hops left", table.hops(0), 2);
        due("its cost stays", table.route(0, 1, 0, 0), 2);
        due("gone of origin 1", table.route(0, 1, 1, 0), -1);
        due("cut hop 63", table.cut(63), 1);
        due("hops left behind 63", table.hops(-1), 1L << 32);
        illegal("cut -1", () -> table.cut(-1));
        illegal("cut 64", () -> table.cut(64));
        illegal("cut least", () -> table.cut(LOW));
        dueCounts("cut that throws", table, 2, 2, 3);
        due("cut hop 32", table.cut(32), 1);
        due("cut hop 1", table.cut(1), 1);
        dueCounts("cut all", table, 0, 0, 0);
    }

    // Promise 6

    private static void route() {
        PrefixBench table = sample();
        int address = ip(10, 1, 0, 0);
        due("route cost", table.route(address, 16, 5, 0), 50);
        due("route origin", table.route(address, 16, 5, 1), 5);
        due("route hops", table.route(address, 16, 5, 2), 64);
        due("best cost", table.route(address, 16, -1, 0), 20);
        due("best origin", table.route(address, 16, -1, 1), 2);
        due("best hops", table.route(address, 16, -1, 2), 2);
        due("route of no such origin", table.route(address, 16, 3, 1), -1);
        due("best of none", table.route(address, 17, -1, 1), -1);
        due("best of one behind all", table.route(-2, 31, -1, 1), -1);
        table.put(address, 16, 0, 65535, 1);
        due("best is the least origin, not the least cost", table.route(address, 16, -1, 0), 65535);
        illegal("route length -1", () -> table.route(0, -1, 0, 0));
        illegal("route length 33", () -> table.route(0, 33, 0, 0));
        illegal("route bits behind", () -> table.route(address, 8, -1, 0));
        illegal("route origin -2", () -> table.route(0, 0, -2, 0));
        illegal("route origin 8", () -> table.route(0, 0, 8, 0));
        illegal("route what -1", () -> table.route(0, 0, -1, -1));
        illegal("route what 3", () -> table.route(0, 0, 7, 3));
        illegal("route what 3 of none", () -> table.route(0, 5, 7, 3));
        dueCounts("route changes nothing", table, 8, 6, 7);
    }

    // Promise 7

    private static void look() {
        PrefixBench table = sample();
        due("look 10.1.2.3", table.look(ip(10, 1, 2, 3)), 24);
        due("look 10.1.3.3", table.look(ip(10, 1, 3, 3)), 16);
        due("look 10.2.0.0", table.look(ip(10, 2, 0, 0)), 8);
        due("look 11.0.0.0", table.look(ip(11, 0, 0, 0)), 0);
        due("look -1", table.look(-1), 32);
        due("look -2", table.look(-2), 0);
        table.take(0, 0, 7);
        due("look, 0/0 gone", table.look(-2), -1);
        due("look 9.255.255.255", table.look(ip(9, 255, 255, 255)), -1);
        table.put(LOW, 1, 0, 0, 1);
        due("look high", table.look(-2), 1);
        due("look low", table.look(HIGH), -1);
    }

    // Promise 8

    private static void hops() {
        PrefixBench table = sample();
        due("hops of the best", table.hops(ip(10, 1, 3, 3)), 6);
        table.put(ip(10, 1, 0, 0), 16, 1, 65535, Long.MIN_VALUE);
        due("hops of a better one", table.hops(ip(10, 1, 3, 3)), Long.MIN_VALUE);
        due("hops 0", table.hops(0), 1);
        due("hops -1", table.hops(-1), 4);
        table.drop(7);
        due("hops of none", table.hops(0), 0);
    }

    // Promise 9

    private static void hop() {
        PrefixBench table = new PrefixBench();
        table.put(0, 1, 0, 0, -1L);
        table.put(LOW, 1, 0, 0, 1L | 1L << 40 | 1L << 63);
        due("hop of 64, flow 0", table.hop(1, 0), 0);
        due("hop of 64, flow 63", table.hop(1, 63), 63);
        due("hop of 64, flow 65", table.hop(1, 65), 1);
        due("hop of 64, flow -1", table.hop(1, -1), 63);
        due("hop of 3, flow 0", table.hop(-1, 0), 0);
        due("hop of 3, flow 1", table.hop(-1, 1), 40);
        due("hop of 3, flow 2", table.hop(-1, 2), 63);
        due("hop of 3, flow 3", table.hop(-1, 3), 0);
        // 2^32 - 1 = 3 * 1431655765; 2^31 = 3 * 715827882 + 2.
        due("hop of 3, flow -1", table.hop(-1, -1), 0);
        due("hop of 3, flow -2", table.hop(-1, -2), 63);
        due("hop of 3, flow least", table.hop(-1, LOW), 63);
        due("hop of 3, flow most", table.hop(-1, HIGH), 40);
        table.take(0, 1, 0);
        due("hop of none", table.hop(1, 0), -1);
        due("hop of none, flow -1", table.hop(1, -1), -1);
    }

    // Promise 10

    private static void shorter() {
        PrefixBench table = sample();
        int address = ip(10, 1, 2, 3);
        due("shorter 33", table.shorter(address, 33), 24);
        due("shorter 25", table.shorter(address, 25), 24);
        due("shorter 24", table.shorter(address, 24), 16);
        due("shorter 16", table.shorter(address, 16), 8);
        due("shorter 8", table.shorter(address, 8), 0);
        due("shorter 1", table.shorter(address, 1), 0);
        due("shorter 0", table.shorter(address, 0), -1);
        due("shorter -1, 33", table.shorter(-1, 33), 32);
        due("shorter -1, 32", table.shorter(-1, 32), 0);
        illegal("shorter -1", () -> table.shorter(0, -1));
        illegal("shorter 34", () -> table.shorter(0, 34));
        illegal("shorter least", () -> table.shorter(0, LOW));
        illegal("shorter most", () -> table.shorter(0, HIGH));
        table.drop(7);
        due("shorter 8 of none", table.shorter(address, 8), -1);
    }

    // Promise 11

    private static void after() {
        PrefixBench table = sample();
        due("after 0/0", table.after(0, 0), code(ip(10, 0, 0, 0), 8));
        due("after a known one", table.after(ip(10, 0, 0, 0), 8), code(ip(10, 1, 0, 0), 16));
        due("after one of two origins", table.after(ip(10, 1, 0, 0), 16), code(ip(10, 1, 2, 0), 24));
        due("after an unknown one, longer", table.after(ip(10, 1, 0, 0), 17), code(ip(10, 1, 2, 0), 24));
        due("after an unknown one, shorter", table.after(ip(10, 1, 2, 0), 23), code(ip(10, 1, 2, 0), 24));
        due("after x/32", table.after(ip(10, 1, 2, 0), 32), code(ip(10, 1, 4, 0), 24));
        due("after, from low to high", table.after(HIGH, 32), code(-1, 32));
        due("after 128.0.0.0/1", table.after(LOW, 1), code(-1, 32));
        due("after the last", table.after(-1, 32), -1);
        table.take(-1, 32, 0);
        due("after, none behind", table.after(ip(10, 1, 4, 0), 24), -1);
        due("after, first", table.after(0, 1), code(ip(10, 0, 0, 0), 8));
        table.put(0, 32, 0, 0, 1);
        due("after, of the same address", table.after(0, 0), 32);
        illegal("after length -1", () -> table.after(0, -1));
        illegal("after length 33", () -> table.after(0, 33));
        illegal("after bits behind", () -> table.after(-1, 31));
    }

    // Promise 12

    private static void within() {
        PrefixBench table = sample();
        due("within 0/0", table.within(0, 0), 6);
        due("within 10/8", table.within(ip(10, 0, 0, 0), 8), 4);
        due("within 10.1/16", table.within(ip(10, 1, 0, 0), 16), 3);
        due("within 10.1/17, unknown", table.within(ip(10, 1, 0, 0), 17), 2);
        due("within 10.1.2/24", table.within(ip(10, 1, 2, 0), 24), 1);
        due("within 10.1.2/25", table.within(ip(10, 1, 2, 0), 25), 0);
        due("within 0/1", table.within(0, 1), 4);
        due("within 128/1", table.within(LOW, 1), 1);
        due("within -1/32", table.within(-1, 32), 1);
        due("within 0/32", table.within(0, 32), 0);
        illegal("within length -1", () -> table.within(0, -1));
        illegal("within length 33", () -> table.within(0, 33));
        illegal("within bits behind", () -> table.within(LOW, 0));
    }

    // Promise 13

    private static void routes() {
        PrefixBench table = sample();
        due("routes", table.routes(), 7);
        table.put(0, 0, 7, 5, 5);
        due("routes, put again", table.routes(), 7);
        table.put(0, 0, 6, 5, 5);
        due("routes, one more", table.routes(), 8);
        table.take(0, 0, 7);
        due("routes, one less", table.routes(), 7);
    }

    // Promise 14

    private static void known() {
        PrefixBench table = sample();
        due("known", table.known(), 6);
        table.put(0, 0, 6, 5, 5);
        due("known, one more origin", table.known(), 6);
        table.take(0, 0, 7);
        due("known, one less of two", table.known(), 6);
        table.take(0, 0, 6);
        due("known, none of it", table.known(), 5);
        table.put(0, 32, 0, 0, 1);
        table.put(0, 31, 0, 0, 1);
        due("known, of the same address", table.known(), 7);
    }

    // Promise 15

    private static void nodes() {
        PrefixBench table = new PrefixBench();
        table.put(0, 8, 0, 0, 1);
        table.put(0, 16, 0, 0, 1);
        table.put(0, 32, 0, 0, 1);
        due("nodes, one has the other", table.nodes(), 3);
        table.put(1, 32, 0, 0, 1);
        due("nodes, they part at 0/31", table.nodes(), 5);
        table.put(2, 32, 0, 0, 1);
        due("nodes, they part at 0/30", table.nodes(), 7);
        table.put(0, 31, 3, 0, 1);
        due("nodes, 0/31 is known", table.nodes(), 7);
        table.put(-1, 32, 0, 0, 1);
        due("nodes, they part at 0/0", table.nodes(), 9);
        table.put(0, 0, 7, 0, 1);
        due("nodes, 0/0 is known", table.nodes(), 9);
        table.take(0, 0, 7);
        table.take(2, 32, 0);
        due("nodes, 0/30 is gone", table.nodes(), 7);
        PrefixBench small = new PrefixBench();
        small.put(0, 1, 0, 0, 1);
        due("nodes, 0/1", small.nodes(), 1);
        small.put(0, 1, 1, 0, 1);
        due("nodes, 0/1 of two origins", small.nodes(), 1);
        small.put(LOW, 1, 0, 0, 1);
        due("nodes, both halves", small.nodes(), 3);
    }

    private static void rowsAreUsedAgain() {
        PrefixBench table = new PrefixBench();
        for (int round = 0; round < 6; round++) {
            for (int i = 39; i >= 0; i--) {
                table.put(i << 24, 8, 1, i, 1L << i);
            }
            dueCounts("round " + round, table, 40, 40, 79);
            due("drop round " + round, table.drop(1), 40);
            dueCounts("behind round " + round, table, 0, 0, 0);
        }
    }
}
