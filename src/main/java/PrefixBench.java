import java.util.Arrays;

/**
 * A table of routes by prefixes: for an address the longest prefix that has it tells the way, by the
 * most trusted of several origins, over one of several hops.
 *
 * <p>The routes stand in rows, sorted by a key: address (without a sign), length and origin, the
 * highest bits first. So the order of the keys is the order of the prefixes, the routes of a prefix
 * stand side by side with the best one first, and so do all prefixes that a prefix has.
 */
public final class PrefixBench {
    public static final int NONE = -1;

    private static final int LONGEST = 32;
    private static final int LAST_ORIGIN = 7;
    private static final int LAST_HOP = 63;
    private static final int DEAREST = 65535;
    private static final int MOST_ROUTES = 1000;

    private static final int COST = 0;
    private static final int ORIGIN = 1;
    private static final int HOP_COUNT = 2;

    private static final int FIRST_PLACES = 16;
    private static final int MOST_PLACES = 2048;

    private static final int LENGTH_BITS = 6;
    private static final int ORIGIN_BITS = 3;
    private static final long UNSIGNED = 0xFFFFFFFFL;

    // Its prefix, too, is -1: the number that the face answers where there is none.
    private static final long NO_KEY = -1L;

    private long[] keys;
    private int[] costs;
    private long[] hopSets;
    private int count;

    public PrefixBench() {
        keys = new long[FIRST_PLACES];
        costs = new int[FIRST_PLACES];
        hopSets = new long[FIRST_PLACES];
        count = 0;
    }

    public int put(int address, int length, int origin, int cost, long hops)
            throws IllegalArgumentException, IllegalStateException {
        checkPrefix(address, length);
        checkOrigin(origin);
        checkCostAndHops(cost, hops);
        long key = routeKey(prefixOf(address, length), origin);
        int place = firstFrom(key);
        if (keyAt(place) != key) {
            checkRoom();
            openPlace(place);
        }
        write(place, key, cost, hops);
        return count;
    }

    public boolean take(int address, int length, int origin) throws IllegalArgumentException {
        checkPrefix(address, length);
        checkOrigin(origin);
        int place = placeOfRoute(prefixOf(address, length), origin);
        if (place == NONE) {
            return false;
        }
        closePlace(place);
        return true;
    }

    public int drop(int origin) throws IllegalArgumentException {
        checkOrigin(origin);
        int kept = 0;
        for (int place = 0; place < count; place++) {
            if (originAt(place) != origin) {
                copy(place, kept);
                kept++;
            }
        }
        return keepFirst(kept);
    }

    public int cut(int hop) throws IllegalArgumentException {
        checkHop(hop);
        long others = ~(1L << hop);
        int kept = 0;
        for (int place = 0; place < count; place++) {
            long left = hopsAt(place) & others;
            if (left != 0L) {
                write(kept, keyAt(place), costAt(place), left);
                kept++;
            }
        }
        return keepFirst(kept);
    }

    public int route(int address, int length, int origin, int what) throws IllegalArgumentException {
        checkPrefix(address, length);
        if (origin != NONE) {
            checkOrigin(origin);
        }
        checkWhat(what);
        long prefix = prefixOf(address, length);
        int place = origin == NONE ? placeOfBest(prefix) : placeOfRoute(prefix, origin);
        return place == NONE ? NONE : tell(place, what);
    }

    public int look(int address) {
        return lengthAt(placeOfLongest(address, LONGEST + 1));
    }

    public long hops(int address) {
        return hopsAt(placeOfLongest(address, LONGEST + 1));
    }

    public int hop(int address, int flow) {
        long set = hopsAt(placeOfLongest(address, LONGEST + 1));
        int size = Long.bitCount(set);
        if (size <= 0) {
            return NONE;
        }
        return hopOfRank(set, (int) ((flow & UNSIGNED) % size));
    }

    public int shorter(int address, int length) throws IllegalArgumentException {
        if (length < 0 || length > LONGEST + 1) {
            throw new IllegalArgumentException("the length is not 0 .. 33");
        }
        return lengthAt(placeOfLongest(address, length));
    }

    public long after(int address, int length) throws IllegalArgumentException {
        checkPrefix(address, length);
        return prefixAt(firstOfPrefix(prefixOf(address, length) + 1L));
    }

    public int within(int address, int length) throws IllegalArgumentException {
        checkPrefix(address, length);
        long first = prefixOf(address, length);
        long last = prefixOf(address | ~mask(length), LONGEST);
        return prefixesBetween(firstOfPrefix(first), firstOfPrefix(last + 1L));
    }

    public int routes() {
        return count;
    }

    public int known() {
        return prefixesBetween(0, count);
    }

    public int nodes() {
        int found = 0;
        for (int place = 0; place < count; place++) {
            if (beginsPrefix(place)) {
                found++;
                if (place > 0 && partAtUnknown(prefixAt(place - 1), prefixAt(place))) {
                    found++;
                }
            }
        }
        return found;
    }

    // What calls are refused.

    private static void checkPrefix(int address, int length) {
        if (length < 0 || length > LONGEST) {
            throw new IllegalArgumentException("the length is not 0 .. 32");
        }
        if ((address & ~mask(length)) != 0) {
            throw new IllegalArgumentException("the address has bits behind the length");
        }
    }

    private static void checkOrigin(int origin) {
        if (origin < 0 || origin > LAST_ORIGIN) {
            throw new IllegalArgumentException("the origin is not 0 .. 7");
        }
    }

    private static void checkCostAndHops(int cost, long hops) {
        if (cost < 0 || cost > DEAREST) {
            throw new IllegalArgumentException("the cost is not 0 .. 65535");
        }
        if (hops == 0L) {
            throw new IllegalArgumentException("there are no hops");
        }
    }

    private static void checkHop(int hop) {
        if (hop < 0 || hop > LAST_HOP) {
            throw new IllegalArgumentException("the hop is not 0 .. 63");
        }
    }

    private static void checkWhat(int what) {
        if (what < COST || what > HOP_COUNT) {
            throw new IllegalArgumentException("what is not 0 .. 2");
        }
    }

    private void checkRoom() {
        if (count >= MOST_ROUTES) {
            throw new IllegalStateException("there are 1000 routes");
        }
    }

    // Prefixes and keys as numbers.

    private static int mask(int length) {
        // Java shifts an int by 32 as by 0, so length 0 needs a case of its own.
        return length <= 0 ? 0 : -1 << (LONGEST - length);
    }

    private static long prefixOf(int address, int length) {
        return ((address & UNSIGNED) << LENGTH_BITS) + length;
    }

    private static int addressOf(long prefix) {
        return (int) (prefix >> LENGTH_BITS);
    }

    private static int lengthOf(long prefix) {
        return (int) (prefix & ((1L << LENGTH_BITS) - 1L));
    }

    private static long routeKey(long prefix, int origin) {
        return (prefix << ORIGIN_BITS) + origin;
    }

    private static int hopOfRank(long set, int rank) {
        int before = 0;
        for (int hop = 0; hop <= LAST_HOP; hop++) {
            if ((set >>> hop & 1L) != 0L) {
                if (before == rank) {
                    return hop;
                }
                before++;
            }
        }
        return NONE;
    }

    // Where something stands.

    /** The first place whose key is not less than this one; count if there is none. */
    private int firstFrom(long key) {
        int low = 0;
        int high = count;
        // Each step halves what is left, so far fewer steps than there are places find it.
        for (int step = 0; step < MOST_PLACES && low < high; step++) {
            int middle = (low + high) >>> 1;
            if (keyAt(middle) < key) {
                low = middle + 1;
            } else {
                high = middle;
            }
        }
        return low;
    }

    private int firstOfPrefix(long prefix) {
        return firstFrom(routeKey(prefix, 0));
    }

    private int placeOfRoute(long prefix, int origin) {
        long key = routeKey(prefix, origin);
        int place = firstFrom(key);
        return keyAt(place) == key ? place : NONE;
    }

    private int placeOfBest(long prefix) {
        int place = firstOfPrefix(prefix);
        return prefixAt(place) == prefix ? place : NONE;
    }

    /** The best route of the longest known prefix that has the address and is shorter than limit. */
    private int placeOfLongest(int address, int limit) {
        for (int length = limit - 1; length >= 0; length--) {
            int place = placeOfBest(prefixOf(address & mask(length), length));
            if (place != NONE) {
                return place;
            }
        }
        return NONE;
    }

    // Counting prefixes.

    private boolean beginsPrefix(int place) {
        return prefixAt(place) != prefixAt(place - 1);
    }

    private int prefixesBetween(int from, int to) {
        int found = 0;
        for (int place = from; place < to; place++) {
            if (beginsPrefix(place)) {
                found++;
            }
        }
        return found;
    }

    /**
     * Whether two neighbours in the order part at a prefix that is not known. Neighbours are enough:
     * where prefixes part, just one pair of neighbours does, the last behind a 0 and the first behind
     * a 1; and as the second comes later, it never has the first.
     */
    private boolean partAtUnknown(long first, long second) {
        int address = addressOf(first);
        int shared = Integer.numberOfLeadingZeros(address ^ addressOf(second));
        return shared < lengthOf(first)
                && placeOfBest(prefixOf(address & mask(shared), shared)) == NONE;
    }

    // The rows: all reading and writing of them is here, behind a look at the place.

    private boolean isPlace(int place) {
        return place >= 0 && place < count
                && place < keys.length && place < costs.length && place < hopSets.length;
    }

    private long keyAt(int place) {
        return isPlace(place) ? keys[place] : NO_KEY;
    }

    private long prefixAt(int place) {
        return keyAt(place) >> ORIGIN_BITS;
    }

    private int lengthAt(int place) {
        return isPlace(place) ? lengthOf(prefixAt(place)) : NONE;
    }

    private int originAt(int place) {
        return isPlace(place) ? (int) (keyAt(place) & LAST_ORIGIN) : NONE;
    }

    private int costAt(int place) {
        return isPlace(place) ? costs[place] : NONE;
    }

    private long hopsAt(int place) {
        return isPlace(place) ? hopSets[place] : 0L;
    }

    private int tell(int place, int what) {
        switch (what) {
            case COST:
                return costAt(place);
            case ORIGIN:
                return originAt(place);
            default:
                return Long.bitCount(hopsAt(place));
        }
    }

    private void write(int place, long key, int cost, long hops) {
        if (isPlace(place)) {
            keys[place] = key;
            costs[place] = cost;
            hopSets[place] = hops;
        }
    }

    private void copy(int from, int to) {
        write(to, keyAt(from), costAt(from), hopsAt(from));
    }

    private void openPlace(int place) {
        growIfFull();
        count++;
        for (int to = count - 1; to > place; to--) {
            copy(to - 1, to);
        }
    }

    private void closePlace(int place) {
        for (int from = place + 1; from < count; from++) {
            copy(from, from - 1);
        }
        count--;
    }

    private int keepFirst(int kept) {
        int gone = count - kept;
        count = kept;
        return gone;
    }

    private void growIfFull() {
        int places = keys.length * 2;
        if (count >= keys.length && places > 0 && places <= MOST_PLACES) {
            keys = Arrays.copyOf(keys, places);
            costs = Arrays.copyOf(costs, places);
            hopSets = Arrays.copyOf(hopSets, places);
        }
    }
}
