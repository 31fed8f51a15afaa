import java.util.ArrayList;
import java.util.List;
import java.util.Random;
import java.util.TreeSet;

/** Long runs of calls, each answer held against a slow table that is written from the words alone. */
public final class ModelTest {
    private static final int RUNS = 400;
    private static final int CALLS = 512;

    public static void main(String[] args) {
        for (int run = 0; run < RUNS; run++) {
            String fault = new Run(run).play();
            if (fault != null) {
                System.out.println("ModelTest: run " + run + ": " + fault);
                System.exit(1);
            }
        }
        System.out.println("ModelTest: " + RUNS + " runs are as due");
    }

    private static final class Route {
        long address;
        int length;
        int origin;
        int cost;
        long hops;

        boolean isOf(long otherAddress, int otherLength) {
            return address == otherAddress && length == otherLength;
        }
    }

    /** Addresses stand here as numbers 0 .. 2^32 - 1, and routes in no order. */
    private static final class Model {
        final List<Route> all = new ArrayList<>();

        static void check(boolean legal) {
            if (!legal) {
                throw new IllegalArgumentException();
            }
        }

        static long unsigned(int address) {
            return Integer.toUnsignedLong(address);
        }

        static long beginning(long address, int length) {
            long size = 1L << (32 - length);
            return address / size * size;
        }

        static void checkPrefix(int address, int length) {
            check(length >= 0 && length <= 32);
            check(beginning(unsigned(address), length) == unsigned(address));
        }

        static boolean has(long address, int length, long other, int otherLength) {
            return otherLength >= length && beginning(other, length) == address;
        }

        Route find(int address, int length, int origin) {
            Route best = null;
            for (Route r : all) {
                boolean meant = origin == -1 ? best == null || r.origin < best.origin : r.origin == origin;
                if (r.isOf(unsigned(address), length) && meant) {
                    best = r;
                }
            }
            return best;
        }

        long put(int address, int length, int origin, int cost, long hops) {
            checkPrefix(address, length);
            check(origin >= 0 && origin <= 7);
            check(cost >= 0 && cost <= 65535 && hops != 0);
            Route r = find(address, length, origin);
            if (r == null) {
                r = new Route();
                all.add(r);
            }
            r.address = unsigned(address);
            r.length = length;
            r.origin = origin;
            r.cost = cost;
            r.hops = hops;
            return all.size();
        }

        long take(int address, int length, int origin) {
            checkPrefix(address, length);
            check(origin >= 0 && origin <= 7);
            return all.remove(find(address, length, origin)) ? 1 : 0;
        }

        long drop(int origin) {
            check(origin >= 0 && origin <= 7);
            int before = all.size();
            all.removeIf(r -> r.origin == origin);
            return before - all.size();
        }

        long cut(int hop) {
            check(hop >= 0 && hop <= 63);
            int before = all.size();
            for (Route r : all) {
                if ((r.hops >> hop & 1) == 1) {
                    r.hops -= 1L << hop;
                }
            }
            all.removeIf(r -> r.hops == 0);
            return before - all.size();
        }

        long route(int address, int length, int origin, int what) {
            checkPrefix(address, length);
            check(origin >= -1 && origin <= 7 && what >= 0 && what <= 2);
            Route r = find(address, length, origin);
            if (r == null) {
                return -1;
            }
            return what == 0 ? r.cost : what == 1 ? r.origin : hopsOf(r.hops).size();
        }

        long shorter(int address, int length) {
            check(length >= 0 && length <= 33);
            int longest = -1;
            for (Route r : all) {
                if (r.length < length && has(r.address, r.length, unsigned(address), 32)) {
                    longest = Math.max(longest, r.length);
                }
            }
            return longest;
        }

        long look(int address) {
            return shorter(address, 33);
        }

        long hops(int address) {
            int length = (int) look(address);
            if (length == -1) {
                return 0;
            }
            return find((int) beginning(unsigned(address), length), length, -1).hops;
        }

        long hop(int address, int flow) {
            List<Integer> hops = hopsOf(hops(address));
            if (hops.isEmpty()) {
                return -1;
            }
            return hops.get((int) (Integer.toUnsignedLong(flow) % hops.size()));
        }

        static List<Integer> hopsOf(long set) {
            List<Integer> hops = new ArrayList<>();
            for (int hop = 0; hop < 64; hop++) {
                if ((set & 1L << hop) != 0) {
                    hops.add(hop);
                }
            }
            return hops;
        }

        TreeSet<Long> prefixes() {
            TreeSet<Long> codes = new TreeSet<>();
            for (Route r : all) {
                codes.add(64 * r.address + r.length);
            }
            return codes;
        }

        long after(int address, int length) {
            checkPrefix(address, length);
            Long next = prefixes().higher(64 * unsigned(address) + length);
            return next == null ? -1 : next;
        }

        long within(int address, int length) {
            checkPrefix(address, length);
            long found = 0;
            for (long code : prefixes()) {
                if (has(unsigned(address), length, code / 64, (int) (code % 64))) {
                    found++;
                }
            }
            return found;
        }

        long nodes() {
            TreeSet<Long> known = prefixes();
            TreeSet<Long> nodes = new TreeSet<>(known);
            for (long a : known) {
                for (long b : known) {
                    long parting = parting(a, b);
                    if (parting != a && parting != b) {
                        nodes.add(parting);
                    }
                }
            }
            return nodes.size();
        }

        /** The longest prefix that has both. */
        static long parting(long a, long b) {
            for (int length = 32; length > 0; length--) {
                long address = beginning(a / 64, length);
                if (has(address, length, a / 64, (int) (a % 64)) && has(address, length, b / 64, (int) (b % 64))) {
                    return 64 * address + length;
                }
            }
            return 0;
        }
    }

    private static final class Run {
        final Random random;
        final Model model = new Model();
        final PrefixBench table = new PrefixBench();
        final int[] bases;
        final int putPart;
        final boolean dense;

        Run(int seed) {
            random = new Random(seed);
            bases = new int[1 + random.nextInt(12)];
            for (int i = 0; i < bases.length; i++) {
                bases[i] = random.nextInt();
            }
            putPart = 1 + random.nextInt(12);
            dense = random.nextBoolean();
        }

        String play() {
            for (int i = 0; i < CALLS; i++) {
                String fault = call(random.nextInt(13 + putPart));
                if (fault != null) {
                    return "call " + i + ": " + fault;
                }
            }
            return null;
        }

        String call(int kind) {
            int length = random.nextInt(50) == 0 ? oddNumber(33) : anyLength();
            int any = anyAddress();
            int address = random.nextInt(40) == 0 ? any : beginning(any, length);
            int origin = random.nextInt(50) == 0 ? oddNumber(8) : random.nextInt(dense ? 3 : 8);
            int what = random.nextInt(30) == 0 ? oddNumber(3) : random.nextInt(3);
            int flow = random.nextBoolean() ? random.nextInt() : random.nextInt(9);
            int hop = random.nextInt(20) == 0 ? oddNumber(64) : random.nextInt(64);
            int bestOr = random.nextBoolean() ? -1 : origin;
            int limit = length + 1;
            switch (kind) {
                case 0:
                    return same("take", () -> table.take(address, length, origin) ? 1 : 0,
                            () -> model.take(address, length, origin));
                case 1:
                    if (random.nextInt(8) != 0) {
                        return null;
                    }
                    return same("drop", () -> table.drop(origin), () -> model.drop(origin));
                case 2:
                    return same("cut", () -> table.cut(hop), () -> model.cut(hop));
                case 3:
                    return same("route", () -> table.route(address, length, bestOr, what),
                            () -> model.route(address, length, bestOr, what));
                case 4:
                    return same("look", () -> table.look(any), () -> model.look(any));
                case 5:
                    return same("hops", () -> table.hops(any), () -> model.hops(any));
                case 6:
                    return same("hop", () -> table.hop(any, flow), () -> model.hop(any, flow));
                case 7:
                    return same("shorter", () -> table.shorter(any, limit), () -> model.shorter(any, limit));
                case 8:
                    return same("after", () -> table.after(address, length), () -> model.after(address, length));
                case 9:
                    return same("within", () -> table.within(address, length), () -> model.within(address, length));
                case 10:
                    return same("routes", () -> table.routes(), () -> model.all.size());
                case 11:
                    return same("known", () -> table.known(), () -> model.prefixes().size());
                case 12:
                    return same("nodes", () -> table.nodes(), () -> model.nodes());
                default:
                    int cost = random.nextInt(60) == 0 ? oddNumber(65536) : random.nextInt(65536);
                    long hops = random.nextInt(60) == 0 ? 0 : anyHops();
                    return same("put", () -> table.put(address, length, origin, cost, hops),
                            () -> model.put(address, length, origin, cost, hops));
            }
        }

        int anyLength() {
            int[] edges = {0, 1, 31, 32};
            return random.nextInt(6) == 0 ? edges[random.nextInt(4)] : random.nextInt(33);
        }

        int anyAddress() {
            int base = bases[random.nextInt(bases.length)];
            if (!dense) {
                return random.nextInt(4) == 0 ? random.nextInt() : base ^ 1 << random.nextInt(32);
            }
            return base ^ random.nextInt(4) << random.nextInt(32);
        }

        long anyHops() {
            long one = 1L << random.nextInt(64);
            return random.nextInt(3) == 0 ? random.nextLong() | one : one | 1L << random.nextInt(64);
        }

        int oddNumber(int behindLast) {
            int[] odd = {-1, -2, behindLast, behindLast + 1, Integer.MIN_VALUE, Integer.MAX_VALUE};
            return odd[random.nextInt(odd.length)];
        }

        static int beginning(int address, int length) {
            if (length < 0 || length > 32) {
                return address;
            }
            return (int) Model.beginning(Model.unsigned(address), length);
        }

        private interface Answer {
            long give();
        }

        static String same(String name, Answer got, Answer want) {
            String due = told(want);
            String is = told(got);
            return is.equals(due) ? null : name + " answered " + is + ", due is " + due;
        }

        static String told(Answer answer) {
            try {
                return Long.toString(answer.give());
            } catch (RuntimeException e) {
                return "throws " + e.getClass().getName();
            }
        }
    }
}
