/** The document's "Terms" and constants, sentence by sentence, each at its boundaries. */
public final class TermsEdgeTest extends Checks {
    private static final int[] PATTERNS = {0, -1, LOW, HIGH, 0xA5A5A5A5, 0x5A5A5A5A, 1, -2};

    public static void main(String[] args) {
        theHighestBitIsTheFirst();
        addressesAreOrderedWithoutASign();
        shortPrefixesAreOrderedWithoutASign();
        aLengthIsFrom0To32();
        theBitsBehindTheLengthAre0();
        aPrefixHasTheAddressesThatBeginWithItsBits();
        aPrefixHasOnlyThoseAsLongAtLeast();
        aPrefixHasOnlyThoseWhoseAddressItHas();
        ofOneAddressTheShorterComesFirst();
        addressesComeBeforeLengths();
        anOriginIsFrom0To7();
        aCostIsFrom0To65535();
        eachHopIsItsPowerOf2();
        aRouteHasOneHopAtLeast();
        aPrefixAndAnOriginHaveOneRoute();
        aPrefixIsKnownUntilItsLastRouteGoes();
        theBestRouteHasTheLeastOrigin();
        shorterTakesAnyAddress();
        noneIsMinusOne();
        end("TermsEdgeTest");
    }

    // "ADDRESSES are ints, of 32 bits, the highest bit first"
    private static void theHighestBitIsTheFirst() {
        PrefixBench table = new PrefixBench();
        table.put(LOW, 1, 0, 0, 1);
        due("first bit 1: LOW", table.look(LOW), 1);
        due("first bit 1: -1", table.look(-1), 1);
        due("first bit 0: HIGH", table.look(HIGH), -1);
        due("first bit 0: 0", table.look(0), -1);
        PrefixBench each = new PrefixBench();
        for (int length = 1; length <= 32; length++) {
            int address = 1 << (32 - length);
            due("the bit of place " + length, each.put(address, length, 0, 0, 1), length);
        }
        for (int length = 1; length <= 32; length++) {
            due("look at the bit of place " + length, each.look(1 << (32 - length)), length);
        }
        due("look where all bits are 0", each.look(0), -1);
    }

    // "they are ordered as numbers without a sign"
    private static void addressesAreOrderedWithoutASign() {
        int[] inOrder = {0, 1, 2, HIGH - 1, HIGH, LOW, LOW + 1, -3, -2, -1};
        int[] puts = {6, 3, 9, 0, 5, 4, 8, 1, 7, 2};
        PrefixBench table = new PrefixBench();
        for (int place : puts) {
            table.put(inOrder[place], 32, 0, place, 1);
        }
        due("the first address", table.after(0, 0), code(inOrder[0], 32));
        for (int place = 0; place < inOrder.length - 1; place++) {
            due("the address behind " + inOrder[place], table.after(inOrder[place], 32), code(inOrder[place + 1], 32));
        }
        due("behind -1", table.after(-1, 32), -1);
        due("those without the first bit", table.within(0, 1), 5);
        due("those with the first bit", table.within(LOW, 1), 5);
    }

    private static void shortPrefixesAreOrderedWithoutASign() {
        PrefixBench table = new PrefixBench();
        table.put(LOW, 1, 0, 0, 1);
        due("0/0 is before 128/1", table.after(0, 0), code(LOW, 1));
        due("127.255.255.255/32 is before 128/1", table.after(HIGH, 32), code(LOW, 1));
        due("128/1 is not before itself", table.after(LOW, 1), -1);
        due("255.255.255.255/32 is behind 128/1", table.after(-1, 32), -1);
        table.put(0, 1, 0, 0, 1);
        due("0/1 is before 128/1", table.after(0, 1), code(LOW, 1));
        due("0/1 is not behind 128/1", table.after(LOW, 1), -1);
    }

    // "a LENGTH, 0 .. 32"
    private static void aLengthIsFrom0To32() {
        for (int length = 0; length <= 32; length++) {
            takesLength(0, length);
            takesLength(beginning(-1, length), length);
        }
        int[] wrong = {-1, 33, -2, 34, 64, 65, 256, -32, -64, LOW, LOW + 1, LOW + 32, HIGH};
        for (int length : wrong) {
            refusesPrefix(0, length);
            refusesPrefix(LOW, length);
            refusesPrefix(-1, length);
        }
    }

    // "the bits of the address behind the first length ones being 0"
    private static void theBitsBehindTheLengthAre0() {
        for (int length = 0; length <= 32; length++) {
            for (int place = 1; place <= 32; place++) {
                int bit = 1 << (32 - place);
                if (place <= length) {
                    takesLength(bit, length);
                } else {
                    refusesPrefix(bit, length);
                    refusesPrefix(beginning(-1, length) | bit, length);
                }
            }
        }
    }

    private static void takesLength(int address, int length) {
        PrefixBench table = new PrefixBench();
        String prefix = prefix(address, length);
        due("put " + prefix, table.put(address, length, 0, 5, 1), 1);
        due("route " + prefix, table.route(address, length, 0, 0), 5);
        due("within " + prefix, table.within(address, length), 1);
        due("after " + prefix, table.after(address, length), -1);
        due("look at " + prefix, table.look(address), length);
        due("take " + prefix, table.take(address, length, 0), true);
    }

    private static void refusesPrefix(int address, int length) {
        PrefixBench table = new PrefixBench();
        String prefix = prefix(address, length);
        illegal("put " + prefix, () -> table.put(address, length, 0, 5, 1));
        illegal("take " + prefix, () -> table.take(address, length, 0));
        illegal("route " + prefix, () -> table.route(address, length, 0, 0));
        illegal("best route " + prefix, () -> table.route(address, length, -1, 0));
        illegal("after " + prefix, () -> table.after(address, length));
        illegal("within " + prefix, () -> table.within(address, length));
        due("routes behind " + prefix, table.routes(), 0);
    }

    // "It HAS an address if that begins with the same length bits"
    private static void aPrefixHasTheAddressesThatBeginWithItsBits() {
        for (int pattern : PATTERNS) {
            for (int length = 0; length <= 32; length++) {
                PrefixBench table = new PrefixBench();
                int first = beginning(pattern, length);
                int last = (int) (Integer.toUnsignedLong(first) + (1L << (32 - length)) - 1);
                String prefix = prefix(first, length);
                table.put(first, length, 0, 0, 1);
                due(prefix + " has its first address", table.look(first), length);
                due(prefix + " has its last address", table.look(last), length);
                due(prefix + " has " + pattern, table.look(pattern), length);
                due(prefix + ", the one before", table.look(first - 1), length == 0 ? 0 : -1);
                due(prefix + ", the one behind", table.look(last + 1), length == 0 ? 0 : -1);
                for (int place = 1; place <= 32; place++) {
                    due(prefix + ", bit " + place + " another", table.look(first ^ 1 << (32 - place)),
                            place <= length ? -1 : length);
                }
            }
        }
    }

    // "it has another prefix if that is as long at least"
    private static void aPrefixHasOnlyThoseAsLongAtLeast() {
        for (int length = 0; length <= 32; length++) {
            PrefixBench table = new PrefixBench();
            table.put(0, length, 0, 0, 1);
            for (int other = 0; other <= 32; other++) {
                due("0/" + other + " has 0/" + length, table.within(0, other), other <= length ? 1 : 0);
            }
        }
        for (int length = 1; length <= 32; length++) {
            PrefixBench table = new PrefixBench();
            table.put(LOW, length, 0, 0, 1);
            due("0/0 has 128/" + length, table.within(0, 0), 1);
            for (int other = 1; other <= 32; other++) {
                due("128/" + other + " has 128/" + length, table.within(LOW, other), other <= length ? 1 : 0);
            }
        }
    }

    // "and it has its address"
    private static void aPrefixHasOnlyThoseWhoseAddressItHas() {
        for (int length = 1; length <= 32; length++) {
            PrefixBench table = new PrefixBench();
            int address = beginning(0xA5A5A5A5, length);
            long behind = 1L << (32 - length);
            table.put(address, length, 0, 0, 1);
            table.put((int) (address + behind - 1), 32, 1, 0, 1);
            table.put(address - 1, 32, 0, 0, 1);
            table.put((int) (address + behind), 32, 0, 0, 1);
            due(prefix(address, length) + " has itself and its last", table.within(address, length),
                    length == 32 ? 1 : 2);
        }
        PrefixBench edges = new PrefixBench();
        edges.put(0, 32, 0, 0, 1);
        edges.put(HIGH, 32, 0, 0, 1);
        edges.put(LOW, 32, 0, 0, 1);
        edges.put(-1, 32, 0, 0, 1);
        due("0/1 has the first half's first and last", edges.within(0, 1), 2);
        due("128/1 has the second half's first and last", edges.within(LOW, 1), 2);
        due("0/0 has all", edges.within(0, 0), 4);
        due("255/8 has the last", edges.within(ip(255, 0, 0, 0), 8), 1);
    }

    // "of the same address the shorter one first"
    private static void ofOneAddressTheShorterComesFirst() {
        PrefixBench table = new PrefixBench();
        for (int length = 32; length >= 0; length--) {
            table.put(0, length, length % 8, 0, 1);
        }
        for (int length = 0; length < 32; length++) {
            due("behind 0/" + length, table.after(0, length), length + 1);
        }
        due("behind 0/32", table.after(0, 32), -1);
        PrefixBench high = new PrefixBench();
        for (int length = 1; length <= 32; length++) {
            high.put(LOW, length, 7 - length % 8, 0, 1);
        }
        due("behind 0/0", high.after(0, 0), code(LOW, 1));
        for (int length = 1; length < 32; length++) {
            due("behind 128/" + length, high.after(LOW, length), code(LOW, length + 1));
        }
        due("behind 128/32", high.after(LOW, 32), -1);
    }

    // "Prefixes are ordered by their addresses"
    private static void addressesComeBeforeLengths() {
        PrefixBench table = new PrefixBench();
        table.put(LOW, 1, 0, 0, 1);
        table.put(1 << 30, 2, 0, 0, 1);
        table.put(1, 32, 0, 0, 1);
        table.put(0, 32, 7, 0, 1);
        table.put(2, 31, 0, 0, 1);
        due("the longest of the least address", table.after(0, 0), code(0, 32));
        due("behind 0/32", table.after(0, 32), code(1, 32));
        due("behind 1/32", table.after(1, 32), code(2, 31));
        due("behind 2/31", table.after(2, 31), code(1 << 30, 2));
        due("behind 64.0.0.0/2", table.after(1 << 30, 2), code(LOW, 1));
    }

    // "an ORIGIN, 0 .. 7"
    private static void anOriginIsFrom0To7() {
        PrefixBench table = new PrefixBench();
        for (int origin = 0; origin <= 7; origin++) {
            due("put origin " + origin, table.put(0, 0, origin, origin, 1), origin + 1);
        }
        for (int origin = 0; origin <= 7; origin++) {
            due("route of origin " + origin, table.route(0, 0, origin, 1), origin);
            due("cost of origin " + origin, table.route(0, 0, origin, 0), origin);
        }
        int[] wrong = {-1, 8, -2, 9, 15, 16, -8, 256, LOW, LOW + 7, HIGH};
        for (int origin : wrong) {
            illegal("put origin " + origin, () -> table.put(0, 0, origin, 1, 1));
            illegal("put origin " + origin + " elsewhere", () -> table.put(0, 8, origin, 1, 1));
            illegal("take origin " + origin, () -> table.take(0, 0, origin));
            illegal("drop origin " + origin, () -> table.drop(origin));
            if (origin != -1) {
                illegal("route origin " + origin, () -> table.route(0, 0, origin, 1));
            }
        }
        dueCounts("behind wrong origins", table, 8, 1, 1);
        due("take origin 0", table.take(0, 0, 0), true);
        due("drop origin 7", table.drop(7), 1);
        due("routes behind", table.routes(), 6);
    }

    // "it has a COST, 0 .. 65535"
    private static void aCostIsFrom0To65535() {
        PrefixBench table = new PrefixBench();
        int[] right = {0, 1, 127, 128, 255, 256, 32767, 32768, 65534, 65535, 0};
        for (int cost : right) {
            due("put cost " + cost, table.put(0, 0, 3, cost, 1), 1);
            due("the cost is " + cost, table.route(0, 0, 3, 0), cost);
            due("the best cost is " + cost, table.route(0, 0, -1, 0), cost);
        }
        int[] wrong = {-1, 65536, -2, 65537, 131071, -65535, -65536, LOW, LOW + 5, HIGH};
        for (int cost : wrong) {
            illegal("put cost " + cost, () -> table.put(0, 0, 3, cost, 1));
            illegal("put cost " + cost + " of a new one", () -> table.put(0, 0, 4, cost, 1));
        }
        due("the cost is as before", table.route(0, 0, 3, 0), 0);
        due("routes as before", table.routes(), 1);
    }

    // "some HOPS, 0 .. 63, .. told as the sum of 2^hop"
    private static void eachHopIsItsPowerOf2() {
        PrefixBench table = new PrefixBench();
        for (int hop = 0; hop <= 63; hop++) {
            table.put(0, 0, 0, 0, 1L << hop);
            due("hops, " + hop + " alone", table.hops(9), 1L << hop);
            due("hop, " + hop + " alone", table.hop(9, 0), hop);
            due("how many, " + hop + " alone", table.route(0, 0, 0, 2), 1);
        }
        table.put(0, 0, 0, 0, -1L);
        due("all hops", table.hops(9), -1L);
        due("all hops, how many", table.route(0, 0, 0, 2), 64);
        table.put(0, 0, 0, 0, Long.MAX_VALUE);
        due("all but 63, how many", table.route(0, 0, 0, 2), 63);
        table.put(0, 0, 0, 0, 1L << 63 | 1L);
        due("the least and the greatest, how many", table.route(0, 0, 0, 2), 2);
        table.put(0, 0, 0, 0, 1L << 31 | 1L << 32);
        due("31 and 32", table.hops(-1), 0x180000000L);
    }

    // "one at least"
    private static void aRouteHasOneHopAtLeast() {
        PrefixBench table = new PrefixBench();
        illegal("put without hops", () -> table.put(0, 0, 0, 0, 0L));
        due("it is no route", table.routes(), 0);
        due("nor known", table.look(0), -1);
        table.put(0, 0, 0, 5, 4L);
        illegal("put without hops, again", () -> table.put(0, 0, 0, 6, 0L));
        due("its hops stay", table.hops(0), 4);
        due("its cost stays", table.route(0, 0, 0, 0), 5);
        due("cut its one hop", table.cut(2), 1);
        due("no route is without hops", table.routes(), 0);
    }

    // "for a prefix and an origin at most one"
    private static void aPrefixAndAnOriginHaveOneRoute() {
        int[][] prefixes = {{0, 0}, {0, 32}, {LOW, 1}, {LOW, 32}, {HIGH, 32}, {-1, 32}};
        for (int[] prefix : prefixes) {
            PrefixBench table = new PrefixBench();
            for (int origin = 7; origin >= 0; origin -= 7) {
                int before = table.routes();
                due("put once", table.put(prefix[0], prefix[1], origin, 1, 2), before + 1);
                due("put twice", table.put(prefix[0], prefix[1], origin, 2, 4), before + 1);
                due("put the same", table.put(prefix[0], prefix[1], origin, 2, 4), before + 1);
                due("the second's cost", table.route(prefix[0], prefix[1], origin, 0), 2);
                due("the second's hops", table.hops(prefix[0]), 4);
            }
            due("take it", table.take(prefix[0], prefix[1], 0), true);
            due("it was one", table.take(prefix[0], prefix[1], 0), false);
            dueCounts("one is left", table, 1, 1, 1);
        }
    }

    // "A prefix that has a route is KNOWN."
    private static void aPrefixIsKnownUntilItsLastRouteGoes() {
        PrefixBench table = new PrefixBench();
        for (int origin = 0; origin < 8; origin++) {
            table.put(-1, 32, origin, 0, 1L << origin);
        }
        for (int origin = 0; origin < 8; origin++) {
            dueCounts("before origin " + origin, table, 8 - origin, 1, 1);
            due("look", table.look(-1), 32);
            due("within", table.within(0, 0), 1);
            due("after", table.after(0, 0), code(-1, 32));
            goes(table, origin);
        }
        dueCounts("none", table, 0, 0, 0);
        due("look at none", table.look(-1), -1);
        due("within none", table.within(0, 0), 0);
        due("after none", table.after(0, 0), -1);
    }

    private static void goes(PrefixBench table, int origin) {
        if (origin % 3 == 0) {
            due("take " + origin, table.take(-1, 32, origin), true);
        } else if (origin % 3 == 1) {
            due("drop " + origin, table.drop(origin), 1);
        } else {
            due("cut " + origin, table.cut(origin), 1);
        }
    }

    // "The BEST route of a known prefix is that with the least origin."
    private static void theBestRouteHasTheLeastOrigin() {
        PrefixBench table = new PrefixBench();
        int[] origins = {7, 3, 5, 0, 6, 1};
        int[] best = {7, 3, 3, 0, 0, 0};
        for (int i = 0; i < origins.length; i++) {
            table.put(LOW, 1, origins[i], 65535 - i, 1L << origins[i]);
            due("the best origin", table.route(LOW, 1, -1, 1), best[i]);
            due("the best's hops", table.hops(-1), 1L << best[i]);
            due("the best's hop", table.hop(LOW, i), best[i]);
        }
        int[] left = {1, 3, 5, 6, 7};
        int gone = 0;
        for (int origin : left) {
            table.take(LOW, 1, gone);
            due("the best of those left", table.route(LOW, 1, -1, 1), origin);
            due("its hops", table.hops(-1), 1L << origin);
            gone = origin;
        }
        table.take(LOW, 1, gone);
        due("no best", table.route(LOW, 1, -1, 1), -1);
    }

    // "(but shorter(), whose address is any)"
    private static void shorterTakesAnyAddress() {
        PrefixBench table = sample();
        for (int length = 0; length <= 33; length++) {
            for (int address : PATTERNS) {
                int limit = length;
                legal("shorter " + prefix(address, limit), () -> table.shorter(address, limit));
            }
        }
        due("bits behind the length", table.shorter(-1, 1), 0);
        due("bits behind length 0", table.shorter(-1, 0), -1);
    }

    // "NONE = -1: There is none."
    private static void noneIsMinusOne() {
        PrefixBench table = new PrefixBench();
        due("NONE", PrefixBench.NONE, -1);
        due("route", table.route(0, 0, 0, 0), PrefixBench.NONE);
        due("look", table.look(0), PrefixBench.NONE);
        due("hop", table.hop(0, 0), PrefixBench.NONE);
        due("shorter", table.shorter(0, 33), PrefixBench.NONE);
        due("after", table.after(0, 0), PrefixBench.NONE);
    }

    private static String prefix(int address, int length) {
        return Integer.toHexString(address) + "/" + length;
    }
}
