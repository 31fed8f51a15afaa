import java.util.ArrayList;
import java.util.List;

/** What the tests are written with: a test is a class that extends this one, and ends with end(). */
class Checks {
    static final int LOW = Integer.MIN_VALUE;
    static final int HIGH = Integer.MAX_VALUE;

    private static int checked = 0;
    private static int wrong = 0;

    interface Call {
        void make();
    }

    static void end(String test) {
        System.out.println(test + ": " + checked + " answers looked at, " + wrong + " not as due");
        if (wrong != 0 || checked == 0) {
            System.exit(1);
        }
    }

    static void due(String what, long got, long want) {
        checked++;
        if (got != want) {
            wrong++;
            System.out.println(what + " answered " + got + ", due is " + want);
        }
    }

    static void due(String what, boolean got, boolean want) {
        due(what, got ? 1L : 0L, want ? 1L : 0L);
    }

    static void due(String what, String got, String want) {
        checked++;
        if (!got.equals(want)) {
            wrong++;
            System.out.println(what + " answered\n" + got + "due is\n" + want);
        }
    }

    static void dueCounts(String what, PrefixBench table, int routes, int known, int nodes) {
        due(what + ": routes()", table.routes(), routes);
        due(what + ": known()", table.known(), known);
        due(what + ": nodes()", table.nodes(), nodes);
    }

    static void illegal(String what, Call call) {
        throwsExactly(what, call, IllegalArgumentException.class);
    }

    static void state(String what, Call call) {
        throwsExactly(what, call, IllegalStateException.class);
    }

    static void legal(String what, Call call) {
        throwsExactly(what, call, null);
    }

    private static void throwsExactly(String what, Call call, Class<?> want) {
        checked++;
        Class<?> got = null;
        try {
            call.make();
        } catch (RuntimeException e) {
            got = e.getClass();
        }
        if (got != want) {
            wrong++;
            System.out.println(what + " threw " + got + ", due is " + want);
        }
    }

    static int ip(int a, int b, int c, int d) {
        return a << 24 | b << 16 | c << 8 | d;
    }

    /** What after() tells of a prefix. */
    static long code(int address, int length) {
        return 64L * Integer.toUnsignedLong(address) + length;
    }

    /** The address with its first bits alone. */
    static int beginning(int address, int length) {
        long behind = 1L << (32 - length);
        return (int) (Integer.toUnsignedLong(address) / behind * behind);
    }

    static PrefixBench sample() {
        PrefixBench table = new PrefixBench();
        table.put(ip(10, 1, 2, 0), 24, 1, 10, 8);
        table.put(-1, 32, 0, 1, 4);
        table.put(ip(10, 1, 0, 0), 16, 5, 50, -1L);
        table.put(ip(10, 0, 0, 0), 8, 1, 100, 3);
        table.put(ip(10, 1, 4, 0), 24, 1, 10, 16);
        table.put(ip(10, 1, 0, 0), 16, 2, 20, 6);
        table.put(0, 0, 7, 9, 1);
        return table;
    }

    /**
     * All that a small table tells, a line a route. It takes the routes away, the longest prefix's
     * first: so hops(), that answers of the longest one alone, tells of each.
     */
    static String emptied(PrefixBench table) {
        StringBuilder told = new StringBuilder();
        told.append(table.routes()).append(' ').append(table.known()).append(' ').append(table.nodes()).append('\n');
        List<Long> prefixes = walked(table);
        for (int length = 32; length >= 0; length--) {
            for (long prefix : prefixes) {
                if (prefix % 64 == length) {
                    emptyOne(table, (int) (prefix / 64), length, told);
                }
            }
        }
        told.append(table.routes()).append('\n');
        return told.toString();
    }

    private static List<Long> walked(PrefixBench table) {
        List<Long> prefixes = new ArrayList<>();
        if (table.route(0, 0, -1, 1) != -1) {
            prefixes.add(0L);
        }
        long prefix = table.after(0, 0);
        while (prefix != -1 && prefixes.size() <= 512) {
            prefixes.add(prefix);
            prefix = table.after((int) (prefix / 64), (int) (prefix % 64));
        }
        return prefixes;
    }

    private static void emptyOne(PrefixBench table, int address, int length, StringBuilder told) {
        for (int route = 0; route < 8; route++) {
            int origin = table.route(address, length, -1, 1);
            if (origin == -1) {
                return;
            }
            told.append(Integer.toHexString(address)).append('/').append(length).append(" of ").append(origin)
                    .append(": ").append(table.route(address, length, -1, 0))
                    .append(' ').append(Long.toHexString(table.hops(address))).append('\n');
            table.take(address, length, origin);
        }
    }
}
