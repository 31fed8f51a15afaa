import java.io.IOException;
import java.lang.reflect.Method;
import java.lang.reflect.Modifier;
import java.nio.file.DirectoryStream;
import java.nio.file.Files;
import java.nio.file.Path;
import java.util.ArrayList;
import java.util.List;
import java.util.TreeSet;

/** What README.md says is so; it is run in the directory where README.md stands, as .ci/run does. */
public final class ReadmeTest extends Checks {
    private static final String NEW_TABLE = "PrefixBench table = new PrefixBench();";

    private static List<String> page = new ArrayList<>();
    private static final List<String> example = new ArrayList<>();
    private static int exampleLine = 1;

    public static void main(String[] args) throws IOException {
        page = Files.readAllLines(Path.of("README.md"));
        takeExample();
        exampleAnswersAsSaid();
        exampleHasEachCall();
        walkIsAsSaid();
        argumentsAreAsSaid();
        testsAreNamed();
        end("ReadmeTest");
    }

    /** The lines of the Java example, the first one being that which makes the table. */
    private static void takeExample() {
        boolean inside = false;
        for (String line : page) {
            if (line.startsWith("```")) {
                inside = line.equals("```java");
            } else if (inside) {
                example.add(line);
            }
        }
        due("the example makes a table", !example.isEmpty() && example.get(0).startsWith(NEW_TABLE), true);
    }

    // The example, line for line: a line that is not held here, or stands elsewhere, is a fault.

    private static void exampleAnswersAsSaid() {
        PrefixBench table = new PrefixBench();
        int net = 10 << 24;
        line("int net = 10 << 24;");
        due("10.0.0.0", net, ip(10, 0, 0, 0));
        says("table.put(net, 8, 2, 100, 0b0110L);", table.put(net, 8, 2, 100, 0b0110L));
        says("table.put(net, 8, 1, 300, 0b1000L);", table.put(net, 8, 1, 300, 0b1000L));
        says("table.put(0, 0, 7, 900, 0b0001L);", table.put(0, 0, 7, 900, 0b0001L));
        says("table.route(net, 8, 2, 0);", table.route(net, 8, 2, 0));
        says("table.route(net, 8, -1, 1);", table.route(net, 8, -1, 1));
        says("table.route(net, 8, 2, 2);", table.route(net, 8, 2, 2));
        says("table.look(net + 5);", table.look(net + 5));
        says("table.hops(net + 5);", table.hops(net + 5));
        says("table.hop(net + 5, 77);", table.hop(net + 5, 77));
        says("table.shorter(net + 5, 8);", table.shorter(net + 5, 8));
        says("table.after(0, 0);", table.after(0, 0));
        says("table.within(0, 0);", table.within(0, 0));
        says("table.routes();", table.routes());
        says("table.known();", table.known());
        says("table.nodes();", table.nodes());
        says("table.take(net, 8, 1);", table.take(net, 8, 1));
        says("table.drop(7);", table.drop(7));
        says("table.cut(1);", table.cut(1));
        says("table.cut(2);", table.cut(2));
        says("table.look(net + 5);", table.look(net + 5));
        due("lines of the example behind these", example.size() - exampleLine, 0);
    }

    /** The comment of the example's next line, which has to be of this code. */
    private static String line(String code) {
        String line = exampleLine < example.size() ? example.get(exampleLine) : "";
        exampleLine++;
        int comment = line.indexOf("// ");
        due("the example's line " + exampleLine + " is " + code,
                comment >= 0 && line.substring(0, comment).trim().equals(code), true);
        return comment < 0 ? "" : line.substring(comment + 3);
    }

    private static void says(String code, Object answer) {
        String comment = line(code);
        due(code + " answers " + answer + ", README.md says " + comment, comment.startsWith(answer + ": "), true);
    }

    private static void exampleHasEachCall() {
        for (Method method : PrefixBench.class.getDeclaredMethods()) {
            if (Modifier.isPublic(method.getModifiers())) {
                String call = "table." + method.getName() + "(";
                boolean found = false;
                for (String line : example) {
                    found |= line.startsWith(call);
                }
                due("the example has " + call, found, true);
            }
        }
    }

    // "A walk through all known prefixes"

    private static void walkIsAsSaid() {
        String text = String.join(" ", page);
        due("the walk's address", text.contains("`(int) (next >> 6)`"), true);
        due("the walk's length", text.contains("`(int) (next & 63)`"), true);
        due("the walk's beginning", text.contains("`route(0, 0, -1, 1)`"), true);
        PrefixBench table = sample();
        StringBuilder walked = new StringBuilder();
        if (table.route(0, 0, -1, 1) != -1) {
            walked.append("0/0\n");
        }
        long next = table.after(0, 0);
        for (int step = 0; step < 10 && next != -1; step++) {
            int address = (int) (next >> 6);
            int length = (int) (next & 63);
            walked.append(Integer.toHexString(address)).append('/').append(length).append('\n');
            next = table.after(address, length);
        }
        due("the walk", walked.toString(), "0/0\na000000/8\na010000/16\na010200/24\na010400/24\nffffffff/32\n");
    }

    // The table of arguments, row for row.

    private static void argumentsAreAsSaid() {
        PrefixBench table = sample();
        row("| length | 0 .. 32; 0 .. 33 in `shorter` | IllegalArgumentException |");
        legal("length 32", () -> table.within(-1, 32));
        illegal("length 33", () -> table.within(-1, 33));
        illegal("length -1", () -> table.after(0, -1));
        legal("shorter 33", () -> table.shorter(-1, 33));
        illegal("shorter 34", () -> table.shorter(-1, 34));
        row("| address | any in `look`, `hops`, `hop` and `shorter`; elsewhere without bits behind the length"
                + " | IllegalArgumentException |");
        legal("any address", () -> table.shorter(-1, 0));
        illegal("bits behind the length", () -> table.within(-1, 31));
        row("| origin | 0 .. 7; in `route` also -1, the best one | IllegalArgumentException |");
        legal("route origin -1", () -> table.route(0, 0, -1, 0));
        illegal("take origin -1", () -> table.take(0, 0, -1));
        illegal("route origin 8", () -> table.route(0, 0, 8, 0));
        row("| cost | 0 .. 65535 | IllegalArgumentException |");
        legal("cost 65535", () -> table.put(0, 0, 0, 65535, 1));
        illegal("cost 65536", () -> table.put(0, 0, 0, 65536, 1));
        row("| hops | not 0: the sum of 2^hop, hop being 0 .. 63 | IllegalArgumentException |");
        legal("hops of 63", () -> table.put(0, 0, 0, 0, 1L << 63));
        illegal("hops 0", () -> table.put(0, 0, 0, 0, 0));
        row("| hop | 0 .. 63 | IllegalArgumentException |");
        legal("hop 63", () -> table.cut(63));
        illegal("hop 64", () -> table.cut(64));
        row("| what | 0 the cost, 1 the origin, 2 how many hops | IllegalArgumentException |");
        legal("what 2", () -> table.route(0, 0, 0, 2));
        illegal("what 3", () -> table.route(0, 0, 0, 3));
        row("| flow | any, as a number without a sign | |");
        legal("flow -1", () -> table.hop(0, -1));
        row("| a new route | one of 1000 at most | IllegalStateException |");
        PrefixBench full = new PrefixBench();
        for (int i = 0; i < 1000; i++) {
            full.put(i, 32, 0, 0, 1);
        }
        state("route 1001", () -> full.put(1000, 32, 0, 0, 1));
    }

    private static void row(String row) {
        due("README.md has " + row, page.contains(row), true);
    }

    // "each `*Test` in `src/test/java`"

    private static void testsAreNamed() throws IOException {
        TreeSet<String> named = new TreeSet<>();
        for (String line : page) {
            if (line.startsWith("- `") && line.contains("Test`: ")) {
                named.add(line.substring(3, line.indexOf("`: ")));
            }
        }
        TreeSet<String> there = new TreeSet<>();
        try (DirectoryStream<Path> files = Files.newDirectoryStream(Path.of("src/test/java"), "*Test.java")) {
            for (Path file : files) {
                there.add(file.getFileName().toString().replace(".java", ""));
            }
        }
        due("the tests that README.md names", named.toString(), there.toString());
    }
}
