/** The boundary cases of promises 1 to 15, a test for each sentence that names one. */
public final class PromiseEdgeTest extends Checks {
    public static void main(String[] args) {
        newObjectHasNoRoutes();
        newObjectsShareNothing();
        putTellsHowManyThereAreThen();
        putOfOneThatThereWasReplacesItAlone();
        takeTellsWhetherThereWasOne();
        takeLeavesTheNeighbours();
        dropTakesAllOfAnOriginAndNoOther();
        dropOfTheFirstTheLastAndAll();
        cutTakesAHopOutOfAll();
        cutKeepsRoutesThatHaveAnotherHop();
        cutKnowsHopsFrom0To63();
        routeTellsEachWhat();
        routeOfNoneIsNone();
        routeKnowsOriginMinusOne();
        lookFindsTheLongest();
        lookFallsBackAsPrefixesGo();
        hopsAreThoseOfTheLongestPrefix();
        hopIsOneOfTheLongestPrefixsBest();
        hopIsTheKthLeast();
        hopTakesAFlowWithoutASign();
        hopOfNoneIsNone();
        shorterIsStrictlyShorter();
        shorterAtItsOwnBounds();
        afterIsStrictlyBehind();
        afterOfAnUnknownPrefix();
        afterWalksThroughAll();
        withinCountsThePrefixItself();
        withinCountsPrefixesNotRoutes();
        routesAndKnownFollowEachCall();
        nodesOfFewPrefixes();
        nodesWhereTwoPartAtEachPlace();
        nodesOfAChain();
        nodesOfAFullTree();
        nodesThatAreKnownCountOnce();
        nodesGoWithTheirPrefixes();
        end("PromiseEdgeTest");
    }

    // Promise 1: "No routes."

    private static void newObjectHasNoRoutes() {
        PrefixBench table = new PrefixBench();
        dueCounts("new", table, 0, 0, 0);
        int[] addresses = {0, 1, HIGH, LOW, -1};
        for (int address : addresses) {
            due("new look", table.look(address), -1);
            due("new hops", table.hops(address), 0);
            due("new hop", table.hop(address, address), -1);
            due("new shorter 0", table.shorter(address, 0), -1);
            due("new shorter 33", table.shorter(address, 33), -1);
            due("new after", table.after(address, 32), -1);
            due("new within", table.within(address, 32), 0);
            due("new route", table.route(address, 32, 0, 0), -1);
            due("new best route", table.route(address, 32, -1, 1), -1);
            due("new take", table.take(address, 32, 7), false);
        }
        due("new after 0/0", table.after(0, 0), -1);
        due("new within 0/0", table.within(0, 0), 0);
        for (int origin = 0; origin <= 7; origin++) {
            due("new drop", table.drop(origin), 0);
        }
        for (int hop = 0; hop <= 63; hop++) {
            due("new cut", table.cut(hop), 0);
        }
        dueCounts("still new", table, 0, 0, 0);
    }

    private static void newObjectsShareNothing() {
        PrefixBench one = new PrefixBench();
        PrefixBench other = new PrefixBench();
        one.put(0, 0, 0, 1, 1);
        other.put(LOW, 1, 7, 2, 2);
        dueCounts("one", one, 1, 1, 1);
        dueCounts("the other", other, 1, 1, 1);
        due("the other's 0/0", other.look(0), -1);
        due("one's cost", one.route(0, 0, 0, 0), 1);
        due("the other's cost", other.route(LOW, 1, 7, 0), 2);
        due("a third is new", new PrefixBench().routes(), 0);
    }

    // Promise 2: "whether there was one or not: how many routes there are then"

    private static void putTellsHowManyThereAreThen() {
        PrefixBench table = new PrefixBench();
        due("put the first", table.put(0, 0, 0, 0, 1), 1);
        due("put it again", table.put(0, 0, 0, 0, 1), 1);
        due("put another origin", table.put(0, 0, 7, 0, 1), 2);
        due("put another length", table.put(0, 1, 0, 0, 1), 3);
        due("put another address", table.put(LOW, 1, 0, 0, 1), 4);
        due("put the greatest prefix", table.put(-1, 32, 7, 65535, -1L), 5);
        due("put each again", table.put(0, 0, 7, 1, 2), 5);
        due("put each again", table.put(0, 1, 0, 1, 2), 5);
        due("put each again", table.put(LOW, 1, 0, 1, 2), 5);
        due("put each again", table.put(-1, 32, 7, 1, 2), 5);
        table.take(0, 0, 0);
        due("put what has gone", table.put(0, 0, 0, 0, 1), 5);
        table.drop(7);
        due("put what was dropped", table.put(-1, 32, 7, 0, 1), 4);
    }

    private static void putOfOneThatThereWasReplacesItAlone() {
        PrefixBench table = new PrefixBench();
        table.put(0, 8, 2, 20, 1L);
        table.put(0, 8, 3, 30, 2L);
        table.put(0, 8, 4, 40, 4L);
        table.put(0, 7, 3, 31, 8L);
        table.put(0, 9, 3, 32, 16L);
        due("put the middle again", table.put(0, 8, 3, 0, 1L << 63), 5);
        due("the middle's cost", table.route(0, 8, 3, 0), 0);
        due("the origin before", table.route(0, 8, 2, 0), 20);
        due("the origin behind", table.route(0, 8, 4, 0), 40);
        due("the length before", table.route(0, 7, 3, 0), 31);
        due("the length behind", table.route(0, 9, 3, 0), 32);
        table.take(0, 9, 3);
        due("the origin before's hops", table.hops(0), 1);
        table.take(0, 8, 2);
        due("the middle's hops", table.hops(0), 1L << 63);
        table.take(0, 8, 3);
        due("the origin behind's hops", table.hops(0), 4);
        table.take(0, 8, 4);
        due("the length before's hops", table.hops(0), 8);
    }

    // Promise 3: "true; false if there is none"

    private static void takeTellsWhetherThereWasOne() {
        PrefixBench table = new PrefixBench();
        due("take from the empty table", table.take(0, 0, 0), false);
        table.put(LOW, 2, 3, 0, 1);
        due("take the origin before", table.take(LOW, 2, 2), false);
        due("take the origin behind", table.take(LOW, 2, 4), false);
        due("take the length before", table.take(LOW, 1, 3), false);
        due("take the length behind", table.take(LOW, 3, 3), false);
        due("take the address before", table.take(1 << 30, 2, 3), false);
        due("take the address behind", table.take(3 << 30, 2, 3), false);
        due("routes behind these", table.routes(), 1);
        due("take it", table.take(LOW, 2, 3), true);
        due("take it again", table.take(LOW, 2, 3), false);
        due("routes behind", table.routes(), 0);
        table.put(0, 0, 0, 0, 1);
        table.put(-1, 32, 7, 0, 1);
        due("take the greatest", table.take(-1, 32, 7), true);
        due("take the least", table.take(0, 0, 0), true);
        dueCounts("behind both", table, 0, 0, 0);
    }

    private static void takeLeavesTheNeighbours() {
        for (int gone = 0; gone < 5; gone++) {
            PrefixBench table = new PrefixBench();
            for (int i = 0; i < 5; i++) {
                table.put(i << 29, 3, i, 100 + i, 1L << i);
            }
            due("take " + gone, table.take(gone << 29, 3, gone), true);
            dueCounts("taken " + gone, table, 4, 4, 7);
            for (int i = 0; i < 5; i++) {
                due("cost of " + i, table.route(i << 29, 3, i, 0), i == gone ? -1 : 100 + i);
                due("hops of " + i, table.hops(i << 29), i == gone ? 0 : 1L << i);
            }
        }
    }

    // Promise 4: "all routes of an origin .. how many"

    private static void dropTakesAllOfAnOriginAndNoOther() {
        for (int gone = 0; gone <= 7; gone++) {
            PrefixBench table = new PrefixBench();
            for (int origin = 0; origin <= 7; origin++) {
                table.put(0, 0, origin, origin, 1L << origin);
                table.put(-1, 32, 7 - origin, origin, 1L << origin);
            }
            due("drop " + gone, table.drop(gone), 2);
            due("drop " + gone + " again", table.drop(gone), 0);
            dueCounts("dropped " + gone, table, 14, 2, 2);
            for (int origin = 0; origin <= 7; origin++) {
                due("least of " + origin, table.route(0, 0, origin, 0), origin == gone ? -1 : origin);
                due("greatest of " + origin, table.route(-1, 32, origin, 0), origin == gone ? -1 : 7 - origin);
            }
            due("the best left", table.route(0, 0, -1, 1), gone == 0 ? 1 : 0);
        }
    }

    private static void dropOfTheFirstTheLastAndAll() {
        PrefixBench table = new PrefixBench();
        for (int i = 0; i < 8; i++) {
            table.put(i << 29, 3, i == 0 ? 0 : i == 7 ? 7 : 4, i, 1L << i);
        }
        due("drop the first", table.drop(0), 1);
        due("the first has gone", table.look(0), -1);
        due("drop the last", table.drop(7), 1);
        due("the last has gone", table.look(-1), -1);
        due("one between", table.hops(3 << 29), 8);
        due("drop all", table.drop(4), 6);
        dueCounts("dropped all", table, 0, 0, 0);
        due("drop of the empty table", table.drop(4), 0);
    }

    // Promise 5: "those that have no other one go: how many routes went"

    private static void cutTakesAHopOutOfAll() {
        PrefixBench table = new PrefixBench();
        for (int hop = 0; hop <= 63; hop++) {
            table.put(hop << 26, 6, hop & 7, hop, 1L << hop);
        }
        for (int hop = 63; hop >= 0; hop--) {
            due("look before cut " + hop, table.look(hop << 26), 6);
            due("cut " + hop, table.cut(hop), 1);
            due("look behind cut " + hop, table.look(hop << 26), -1);
            due("routes behind cut " + hop, table.routes(), hop);
        }
    }

    private static void cutKeepsRoutesThatHaveAnotherHop() {
        PrefixBench table = new PrefixBench();
        table.put(0, 0, 0, 77, -1L);
        long left = -1L;
        for (int hop = 0; hop < 63; hop++) {
            due("cut " + hop, table.cut(hop), 0);
            left -= 1L << hop;
            due("left behind " + hop, table.hops(0), left);
            due("how many behind " + hop, table.route(0, 0, 0, 2), 63 - hop);
            due("its cost", table.route(0, 0, 0, 0), 77);
        }
        due("cut the last", table.cut(63), 1);
        dueCounts("none is left", table, 0, 0, 0);
        PrefixBench several = new PrefixBench();
        several.put(0, 0, 0, 1, 1L);
        several.put(0, 0, 1, 2, 3L);
        several.put(0, 0, 2, 3, 1L);
        several.put(-1, 32, 7, 4, 1L);
        due("cut three of four", several.cut(0), 3);
        dueCounts("one is left", several, 1, 1, 1);
        due("its origin", several.route(0, 0, -1, 1), 1);
        due("its hops", several.hops(-1), 2);
    }

    // Promise 5: "hop is not 0 .. 63"

    private static void cutKnowsHopsFrom0To63() {
        PrefixBench table = new PrefixBench();
        table.put(0, 1, 0, 0, 1L);
        table.put(LOW, 1, 0, 0, Long.MIN_VALUE);
        int[] wrong = {-1, 64, -2, 65, 127, 128, -64, -63, LOW, LOW + 63, HIGH};
        for (int hop : wrong) {
            illegal("cut " + hop, () -> table.cut(hop));
            due("hops 0 behind cut " + hop, table.hops(0), 1L);
            due("hops 63 behind cut " + hop, table.hops(-1), Long.MIN_VALUE);
        }
        due("cut 1", table.cut(1), 0);
        due("cut 62", table.cut(62), 0);
        due("cut 0", table.cut(0), 1);
        due("cut 63", table.cut(63), 1);
    }

    // Promise 6: "what = 0: its cost, 1: its origin, 2: how many hops it has"

    private static void routeTellsEachWhat() {
        PrefixBench table = new PrefixBench();
        table.put(0, 0, 0, 0, 1L << 63);
        table.put(-1, 32, 7, 65535, -1L);
        due("the least cost", table.route(0, 0, 0, 0), 0);
        due("the least origin", table.route(0, 0, 0, 1), 0);
        due("the fewest hops", table.route(0, 0, 0, 2), 1);
        due("the greatest cost", table.route(-1, 32, 7, 0), 65535);
        due("the greatest origin", table.route(-1, 32, 7, 1), 7);
        due("the most hops", table.route(-1, 32, 7, 2), 64);
        int[] wrong = {-1, 3, -2, 4, LOW, HIGH};
        for (int what : wrong) {
            illegal("route what " + what, () -> table.route(0, 0, 0, what));
            illegal("best route what " + what, () -> table.route(0, 0, -1, what));
            illegal("route of none what " + what, () -> table.route(0, 32, 0, what));
        }
    }

    // Promise 6: "NONE if there is none"

    private static void routeOfNoneIsNone() {
        PrefixBench table = new PrefixBench();
        table.put(LOW, 2, 3, 9, 1);
        for (int what = 0; what <= 2; what++) {
            due("the origin before", table.route(LOW, 2, 2, what), -1);
            due("the origin behind", table.route(LOW, 2, 4, what), -1);
            due("the length before", table.route(LOW, 1, -1, what), -1);
            due("the length behind", table.route(LOW, 3, -1, what), -1);
            due("the address before", table.route(1 << 30, 2, -1, what), -1);
            due("the address behind", table.route(3 << 30, 2, -1, what), -1);
            due("the least prefix", table.route(0, 0, -1, what), -1);
            due("the greatest prefix", table.route(-1, 32, -1, what), -1);
        }
        table.take(LOW, 2, 3);
        due("what has gone", table.route(LOW, 2, 3, 0), -1);
    }

    // Promise 6: "origin = -1: of its best route"; "origin may be -1"

    private static void routeKnowsOriginMinusOne() {
        PrefixBench table = new PrefixBench();
        table.put(0, 32, 7, 1, 1L);
        due("the best is that of 7", table.route(0, 32, -1, 1), 7);
        table.put(0, 32, 0, 2, 3L);
        due("the best is that of 0", table.route(0, 32, -1, 1), 0);
        due("its cost", table.route(0, 32, -1, 0), 2);
        due("its hops", table.route(0, 32, -1, 2), 2);
        table.put(0, 31, 0, 3, 7L);
        due("not that of a shorter one", table.route(0, 32, -1, 0), 2);
        illegal("route origin -2", () -> table.route(0, 32, -2, 0));
        illegal("route origin 8", () -> table.route(0, 32, 8, 0));
        illegal("route origin LOW", () -> table.route(0, 32, LOW, 0));
        illegal("route origin HIGH", () -> table.route(0, 32, HIGH, 0));
        illegal("take origin -1", () -> table.take(0, 32, -1));
        illegal("put origin -1", () -> table.put(0, 32, -1, 0, 1));
        illegal("drop origin -1", () -> table.drop(-1));
        due("routes behind", table.routes(), 3);
    }

    // Promise 7: "the longest known prefix that has an address; NONE if there is none"

    private static void lookFindsTheLongest() {
        int[] patterns = {0, -1, LOW, 0x5A5A5A5A};
        for (int pattern : patterns) {
            PrefixBench table = new PrefixBench();
            for (int length = 0; length <= 32; length++) {
                due("before it is known", table.look(pattern), length - 1);
                table.put(beginning(pattern, length), length, length % 8, 0, 1);
                due("as it is known", table.look(pattern), length);
            }
            for (int place = 1; place <= 32; place++) {
                due("they part at place " + place, table.look(pattern ^ 1 << (32 - place)), place - 1);
            }
        }
    }

    private static void lookFallsBackAsPrefixesGo() {
        PrefixBench table = new PrefixBench();
        for (int length = 0; length <= 32; length++) {
            table.put(beginning(-1, length), length, 0, 0, 1);
        }
        for (int length = 32; length >= 0; length--) {
            due("before it goes", table.look(-1), length);
            table.take(beginning(-1, length), length, 0);
        }
        due("none is left", table.look(-1), -1);
        table.put(0, 0, 7, 0, 1);
        due("0/0 has all: 0", table.look(0), 0);
        due("0/0 has all: HIGH", table.look(HIGH), 0);
        due("0/0 has all: LOW", table.look(LOW), 0);
        due("0/0 has all: -1", table.look(-1), 0);
    }

    // Promise 8: "The hops of that prefix's best route; 0 if there is none."

    private static void hopsAreThoseOfTheLongestPrefix() {
        PrefixBench table = new PrefixBench();
        due("none", table.hops(0), 0);
        table.put(0, 0, 0, 0, 1L);
        due("of 0/0", table.hops(-1), 1L);
        table.put(LOW, 1, 7, 65535, Long.MIN_VALUE);
        due("of the longer one, though of a greater origin", table.hops(-1), Long.MIN_VALUE);
        due("of 0/0, beside it", table.hops(HIGH), 1L);
        table.put(-1, 32, 7, 0, -1L);
        due("of the longest", table.hops(-1), -1L);
        due("of the one before it", table.hops(-2), Long.MIN_VALUE);
        table.put(-1, 32, 6, 65535, 2L);
        due("of the longest's best", table.hops(-1), 2L);
        table.take(0, 0, 0);
        due("none again", table.hops(0), 0);
        table.cut(63);
        due("none behind the cut", table.hops(LOW), 0);
        due("the best stays", table.hops(-1), 2L);
    }

    // Promise 9: "One of these hops"

    private static void hopIsOneOfTheLongestPrefixsBest() {
        PrefixBench table = new PrefixBench();
        table.put(0, 0, 0, 0, 1L << 5);
        due("of 0/0", table.hop(-1, 0), 5);
        table.put(LOW, 1, 7, 0, 1L << 6);
        due("of 128/1", table.hop(-1, 0), 6);
        due("of 0/0, beside it", table.hop(HIGH, 0), 5);
        table.put(-1, 32, 7, 0, 1L << 63);
        due("of the longest", table.hop(-1, 0), 63);
        due("of the one before it", table.hop(-2, 0), 6);
        table.put(-1, 32, 6, 65535, 1L);
        due("of the longest's best", table.hop(-1, 0), 0);
        table.put(-2, 31, 0, 0, 1L << 9);
        due("not of a shorter one's best", table.hop(-1, 0), 0);
        table.drop(6);
        table.drop(7);
        due("of what is left", table.hop(-1, 0), 9);
    }

    // Promise 9: "the k-th least of them, from 0, k being what is left when flow .. is divided"

    private static void hopIsTheKthLeast() {
        for (int size = 1; size <= 64; size++) {
            PrefixBench table = new PrefixBench();
            long least = -1L >>> (64 - size);
            table.put(0, 1, 0, 0, least);
            table.put(LOW, 1, 0, 0, least << (64 - size));
            int[] flows = {0, 1, size - 1, size, size + 1, 2 * size - 1, 2 * size};
            for (int flow : flows) {
                due("the least " + size + ", flow " + flow, table.hop(HIGH, flow), flow % size);
                due("the greatest " + size + ", flow " + flow, table.hop(LOW, flow), 64 - size + flow % size);
            }
        }
        PrefixBench spread = new PrefixBench();
        spread.put(0, 0, 0, 0, 1L | 1L << 31 | 1L << 32 | 1L << 62 | 1L << 63);
        int[] hops = {0, 31, 32, 62, 63};
        for (int flow = 0; flow < 15; flow++) {
            due("of five, flow " + flow, spread.hop(5, flow), hops[flow % 5]);
        }
    }

    // Promise 9: "flow, as a number without a sign"

    private static void hopTakesAFlowWithoutASign() {
        for (int size = 1; size <= 64; size++) {
            PrefixBench table = new PrefixBench();
            table.put(0, 0, 0, 0, -1L >>> (64 - size));
            int[] flows = {HIGH - 1, HIGH, LOW, LOW + 1, -3, -2, -1, -size, -size - 1, 1 - size};
            for (int flow : flows) {
                long unsigned = flow < 0 ? 4294967296L + flow : flow;
                due("of " + size + ", flow " + flow, table.hop(7, flow), unsigned % size);
            }
        }
        PrefixBench three = new PrefixBench();
        three.put(0, 0, 0, 0, 1L << 1 | 1L << 2 | 1L << 3);
        due("4294967295 by 3 leaves 0", three.hop(0, -1), 1);
        due("4294967294 by 3 leaves 2", three.hop(0, -2), 3);
        due("2147483648 by 3 leaves 2", three.hop(0, LOW), 3);
        due("2147483647 by 3 leaves 1", three.hop(0, HIGH), 2);
    }

    // Promise 9: "NONE if there are none"

    private static void hopOfNoneIsNone() {
        PrefixBench table = new PrefixBench();
        int[] flows = {0, 1, -1, LOW, HIGH};
        for (int flow : flows) {
            due("of the empty table", table.hop(0, flow), -1);
        }
        table.put(LOW, 1, 0, 0, 1L);
        for (int flow : flows) {
            due("of an address without a prefix", table.hop(HIGH, flow), -1);
            due("of one hop", table.hop(LOW, flow), 0);
        }
        table.cut(0);
        due("of one that has gone", table.hop(LOW, 0), -1);
    }

    // Promise 10: "that has an address and is shorter than length"

    private static void shorterIsStrictlyShorter() {
        PrefixBench table = new PrefixBench();
        for (int length = 0; length <= 32; length++) {
            table.put(beginning(-1, length), length, 0, 0, 1);
        }
        for (int length = 0; length <= 33; length++) {
            due("of all, shorter than " + length, table.shorter(-1, length), length - 1);
            due("of 0/0 alone, shorter than " + length, table.shorter(HIGH, length), length == 0 ? -1 : 0);
        }
        PrefixBench few = new PrefixBench();
        few.put(LOW, 1, 0, 0, 1);
        few.put(LOW, 32, 0, 0, 1);
        for (int length = 0; length <= 33; length++) {
            due("of two, shorter than " + length, few.shorter(LOW, length), length < 2 ? -1 : length < 33 ? 1 : 32);
            due("of one, shorter than " + length, few.shorter(-1, length), length < 2 ? -1 : 1);
            due("of none, shorter than " + length, few.shorter(HIGH, length), -1);
        }
    }

    // Promise 10: "length is not 0 .. 33"

    private static void shorterAtItsOwnBounds() {
        PrefixBench table = sample();
        due("shorter than 0", table.shorter(-1, 0), -1);
        due("shorter than 33", table.shorter(-1, 33), 32);
        int[] wrong = {-1, 34, -2, 35, 64, 65, LOW, LOW + 33, HIGH};
        for (int length : wrong) {
            illegal("shorter " + length, () -> table.shorter(-1, length));
            illegal("shorter " + length + " of 0", () -> table.shorter(0, length));
        }
        due("shorter 33 of the empty table", new PrefixBench().shorter(0, 33), -1);
        due("shorter 0 of the empty table", new PrefixBench().shorter(-1, 0), -1);
    }

    // Promise 11: "The first known prefix behind a prefix .. NONE if there is none"

    private static void afterIsStrictlyBehind() {
        PrefixBench table = new PrefixBench();
        table.put(0, 0, 0, 0, 1);
        table.put(0, 0, 7, 0, 1);
        due("0/0 is behind none", table.after(0, 0), -1);
        table.put(-1, 32, 0, 0, 1);
        table.put(-1, 32, 7, 0, 1);
        due("the greatest that after tells", table.after(0, 0), 274877906912L);
        due("behind the greatest", table.after(-1, 32), -1);
        due("behind the one before the greatest", table.after(-2, 32), 274877906912L);
        due("behind the one before in length", table.after(-2, 31), 274877906912L);
        table.put(0, 1, 7, 0, 1);
        due("the least that after tells", table.after(0, 0), 1);
        table.put(LOW, 1, 3, 0, 1);
        due("64 times an address with the highest bit", table.after(0, 1), 137438953473L);
        due("it is no negative number", table.after(HIGH, 32), 137438953473L);
    }

    // Promise 11: "(known or not)"

    private static void afterOfAnUnknownPrefix() {
        PrefixBench table = new PrefixBench();
        table.put(LOW, 2, 5, 0, 1);
        long it = code(LOW, 2);
        due("the length before", table.after(LOW, 1), it);
        due("itself", table.after(LOW, 2), -1);
        due("the length behind", table.after(LOW, 3), -1);
        due("the last of the address", table.after(LOW, 32), -1);
        due("the last of the address before", table.after(HIGH, 32), it);
        due("the first of all", table.after(0, 0), it);
        due("the last of address 0", table.after(0, 32), it);
        due("an address within it", table.after(LOW + 1, 32), -1);
        due("the last of all", table.after(-1, 32), -1);
        table.take(LOW, 2, 5);
        due("when it has gone", table.after(0, 0), -1);
    }

    private static void afterWalksThroughAll() {
        PrefixBench table = new PrefixBench();
        for (int i = 99; i >= 0; i--) {
            table.put(i * 7 % 100 << 25, 7 + i * 7 % 100 % 3 * 8, i % 8, 0, 1);
        }
        long prefix = 0;
        int found = 0;
        while (found <= 100) {
            long next = table.after((int) (prefix / 64), (int) (prefix % 64));
            if (next == -1) {
                break;
            }
            due("it is behind the one before", next > prefix, true);
            due("it is known", table.route((int) (next / 64), (int) (next % 64), -1, 1) >= 0, true);
            prefix = next;
            found++;
        }
        due("all are walked through", found, 100);
    }

    // Promise 12: "(itself, too, if it is known)"

    private static void withinCountsThePrefixItself() {
        int[] patterns = {0, -1, LOW, 0xA5A5A5A5};
        for (int pattern : patterns) {
            PrefixBench table = new PrefixBench();
            for (int length = 32; length >= 0; length--) {
                int address = beginning(pattern, length);
                due("before it is known", table.within(address, length), 32 - length);
                table.put(address, length, 0, 0, 1);
                due("as it is known", table.within(address, length), 33 - length);
            }
            due("of the longest", table.within(pattern, 32), 1);
            due("of all", table.within(0, 0), 33);
            due("of one beside the longest", table.within(pattern ^ 1, 32), 0);
        }
    }

    private static void withinCountsPrefixesNotRoutes() {
        PrefixBench table = new PrefixBench();
        for (int origin = 7; origin >= 0; origin--) {
            table.put(LOW, 1, origin, 0, 1);
            table.put(0, 0, origin, 0, 1);
            due("itself of several origins", table.within(LOW, 1), 1);
            due("two of several origins", table.within(0, 0), 2);
            due("the other half", table.within(0, 1), 0);
        }
        table.drop(0);
        due("of one origin less", table.within(0, 0), 2);
    }

    // Promises 13 and 14

    private static void routesAndKnownFollowEachCall() {
        PrefixBench table = new PrefixBench();
        for (int origin = 0; origin <= 7; origin++) {
            table.put(0, 32, origin, 0, 1L << origin);
            dueCounts("one more origin", table, origin + 1, 1, 1);
        }
        table.put(0, 31, 0, 0, 1L);
        dueCounts("another length", table, 9, 2, 2);
        table.put(-1, 32, 0, 0, 1L);
        dueCounts("another address", table, 10, 3, 4);
        table.put(-1, 32, 0, 9, 2L);
        dueCounts("put again", table, 10, 3, 4);
        table.take(0, 32, 7);
        dueCounts("take one of eight", table, 9, 3, 4);
        table.take(0, 32, 7);
        dueCounts("take none", table, 9, 3, 4);
        table.cut(0);
        dueCounts("cut two", table, 7, 2, 3);
        table.drop(0);
        dueCounts("drop one", table, 6, 1, 1);
        for (int origin = 1; origin <= 6; origin++) {
            table.drop(origin);
        }
        dueCounts("none", table, 0, 0, 0);
    }

    // Promise 15: "known, or .. the longest that has two known ones of which neither has the other"

    private static void nodesOfFewPrefixes() {
        PrefixBench table = new PrefixBench();
        due("none", table.nodes(), 0);
        table.put(-1, 32, 0, 0, 1);
        due("one", table.nodes(), 1);
        table.put(-1, 32, 7, 0, 1);
        due("one of two origins", table.nodes(), 1);
        table.put(0, 0, 0, 0, 1);
        due("one that has the other", table.nodes(), 2);
        table.put(0, 32, 0, 0, 1);
        due("two that part at 0/0, which is known", table.nodes(), 3);
        table.take(0, 0, 0);
        due("two that part at 0/0, which is not", table.nodes(), 3);
        table.take(0, 32, 0);
        due("one again", table.nodes(), 1);
    }

    private static void nodesWhereTwoPartAtEachPlace() {
        int[] patterns = {0, -1, LOW, 0x5A5A5A5A};
        for (int pattern : patterns) {
            for (int place = 1; place <= 32; place++) {
                PrefixBench table = new PrefixBench();
                table.put(pattern, 32, 0, 0, 1);
                table.put(pattern ^ 1 << (32 - place), 32, 0, 0, 1);
                due("they part at " + (place - 1), table.nodes(), 3);
                table.put(beginning(pattern, place), place, 0, 0, 1);
                due("one of the halves is known", table.nodes(), place == 32 ? 3 : 4);
                table.put(beginning(pattern, place - 1), place - 1, 0, 0, 1);
                due("where they part is known", table.nodes(), place == 32 ? 3 : 4);
                table.put(0, 0, 0, 0, 1);
                due("0/0 is known", table.nodes(), table.known());
            }
        }
    }

    private static void nodesOfAChain() {
        PrefixBench table = new PrefixBench();
        for (int length = 0; length <= 32; length++) {
            table.put(beginning(0xA5A5A5A5, length), length, 0, 0, 1);
            due("each has the next", table.nodes(), length + 1);
        }
        PrefixBench comb = new PrefixBench();
        for (int place = 1; place <= 32; place++) {
            comb.put(1 << (32 - place), place, 0, 0, 1);
            due("each parts from the next", comb.nodes(), 2 * place - 1);
        }
        comb.put(0, 32, 0, 0, 1);
        due("the last part at 0/31", comb.nodes(), 65);
    }

    private static void nodesOfAFullTree() {
        PrefixBench table = new PrefixBench();
        for (int i = 0; i < 16; i++) {
            table.put(i << 28, 4, 0, 0, 1);
            due("leaves", table.nodes(), 2 * i + 1);
        }
        int known = 16;
        for (int length = 3; length >= 0; length--) {
            for (int i = 0; i < 1 << length; i++) {
                table.put((int) ((long) i << (32 - length)), length, 0, 0, 1);
                known++;
                due("known and the rest", table.nodes(), 31);
                due("known", table.known(), known);
            }
        }
        for (int i = 0; i < 16; i++) {
            table.take(i << 28, 4, 0);
        }
        due("the inner ones are left", table.nodes(), 15);
    }

    private static void nodesThatAreKnownCountOnce() {
        PrefixBench table = new PrefixBench();
        table.put(0, 2, 0, 0, 1);
        table.put(1 << 30, 2, 0, 0, 1);
        due("they part at 0/1", table.nodes(), 3);
        table.put(0, 1, 5, 0, 1);
        due("0/1 is known", table.nodes(), 3);
        table.put(0, 0, 0, 0, 1);
        due("0/0 is known, and parts none", table.nodes(), 4);
        table.take(0, 1, 5);
        due("0/0 does not stand for 0/1", table.nodes(), 4);
        table.put(LOW, 1, 0, 0, 1);
        due("two part at 0/0", table.nodes(), 5);
        table.take(0, 0, 0);
        due("0/0 is a node all the same", table.nodes(), 5);
    }

    private static void nodesGoWithTheirPrefixes() {
        PrefixBench table = new PrefixBench();
        table.put(ip(10, 0, 0, 0), 32, 1, 0, 1L);
        table.put(ip(10, 0, 0, 1), 32, 2, 0, 2L);
        table.put(ip(10, 0, 0, 2), 32, 3, 0, 4L);
        due("three, parting twice", table.nodes(), 5);
        due("drop the last", table.drop(3), 1);
        due("two, parting once", table.nodes(), 3);
        due("cut the second", table.cut(1), 1);
        due("one", table.nodes(), 1);
        due("take the first", table.take(ip(10, 0, 0, 0), 32, 1), true);
        due("none", table.nodes(), 0);
    }
}
