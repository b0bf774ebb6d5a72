import java.io.IOException;
import java.lang.reflect.Method;
import java.nio.charset.StandardCharsets;
import java.nio.file.Files;
import java.nio.file.Path;
import java.util.ArrayList;
import java.util.List;
import java.util.regex.Matcher;
import java.util.regex.Pattern;
import java.util.stream.Stream;

/** What README.md tells: its example, its table of calls, its list of tests. Run in the project's directory. */
public final class ReadmeTest {
    private static final Check CHECK = new Check("ReadmeTest");
    private static final Path README = Path.of("README.md");
    private static final Path DOCUMENT = Path.of("../shared/DOC.md");
    private static final Path TESTS = Path.of("src/test/java");
    private static final Pattern BLOCK = Pattern.compile("(?s)```java\n(.*?)```");
    private static final Pattern TELLS = Pattern.compile("tell\\(x, \"([^\"]*)\"\\);");
    private static final Pattern ASKS = Pattern.compile("x\\.(\\w+)\\(([^)]*)\\); +// (-?\\d+|true|false)\\b.*");
    private static final Pattern ROW = Pattern.compile("\\| (`\\w+`(?: `\\w+`)*) \\| [^|]* \\| (\\d+) to (\\d+) \\|");
    private static final Pattern PROMISE = Pattern.compile("## Promise (\\d+): (\\w+)\n");
    private static final int FIRST_CALL = 2;
    private static final int LAST_CALL = 50;

    private ReadmeTest() {
    }

    public static void main(String[] args) throws Exception {
        String readme = read(README);
        List<String> blocks = new ArrayList<>();
        Matcher m = BLOCK.matcher(readme);
        while (m.find()) {
            blocks.add(m.group(1));
        }
        CHECK.due("blocks of Java", 2, blocks.size());
        helper(blocks.get(0));
        example(blocks.get(1));
        table(readme);
        tests(readme);
        mistakes();
        CHECK.close();
    }

    private static String read(Path file) throws IOException {
        return Files.readString(file, StandardCharsets.UTF_8);
    }

    // ---- the helper, as it stands in README.md

    static void tell(ChaffInTheWind x, String text) {
        x.end(0);
        for (int i = 0; i < text.length(); i += 4) {
            int four = 0;
            for (int j = i; j < i + 4; j++) {
                four = four << 8 | (j < text.length() ? text.charAt(j) : 0);
            }
            x.sign(four);
        }
        x.end(text.length());
    }

    private static void helper(String told) throws IOException {
        String own = read(TESTS.resolve("ReadmeTest.java"));
        CHECK.due("the helper is the one of this test", true, own.contains(told.indent(4)));
        for (String text : new String[] {"", "y", "y2", "y24", "y9;y"}) {
            ChaffInTheWind x = new ChaffInTheWind();
            tell(x, "17*3~2;");
            tell(x, text);
            CHECK.due("signs of '" + text + "'", text.length(), x.count(9));
        }
    }

    // ---- the example

    private static void example(String told) throws Exception {
        ChaffInTheWind x = new ChaffInTheWind();
        int asked = 0;
        for (String line : told.split("\n")) {
            Matcher tells = TELLS.matcher(line);
            Matcher asks = ASKS.matcher(line);
            if (tells.matches()) {
                tell(x, tells.group(1));
            } else if (asks.matches()) {
                CHECK.due(line + " |", asks.group(3), ask(x, asks.group(1), asks.group(2)));
                asked++;
            } else {
                CHECK.due("'" + line + "'", "ChaffInTheWind x = new ChaffInTheWind();", line);
            }
        }
        CHECK.due("calls are asked", true, asked > 0);
    }

    private static String ask(ChaffInTheWind x, String name, String list) throws Exception {
        String[] told = list.isEmpty() ? new String[0] : list.split(", ");
        Object[] all = new Object[told.length];
        for (int i = 0; i < told.length; i++) {
            boolean isNumber = told[i].matches("-?\\d+");
            all[i] = isNumber ? (Object) Integer.valueOf(told[i]) : (Object) Boolean.valueOf(told[i]);
        }
        for (Method m : ChaffInTheWind.class.getMethods()) {
            if (m.getName().equals(name) && m.getParameterCount() == all.length) {
                return String.valueOf(m.invoke(x, all));
            }
        }
        return "no such call";
    }

    // ---- the table of calls, the list of tests

    private static void table(String readme) throws IOException {
        List<String> due = new ArrayList<>();
        Matcher promises = PROMISE.matcher(read(DOCUMENT));
        while (promises.find()) {
            if (Integer.parseInt(promises.group(1)) >= FIRST_CALL) {
                due.add("`" + promises.group(2) + "`");
            }
        }
        List<String> got = new ArrayList<>();
        int next = FIRST_CALL;
        Matcher rows = ROW.matcher(readme);
        while (rows.find()) {
            List<String> calls = List.of(rows.group(1).split(" "));
            got.addAll(calls);
            CHECK.due(rows.group(1) + " from", next, Integer.parseInt(rows.group(2)));
            next += calls.size();
            CHECK.due(rows.group(1) + " to", next - 1, Integer.parseInt(rows.group(3)));
        }
        CHECK.due("calls of the table", due.toString(), got.toString());
        CHECK.due("the last promise", LAST_CALL, next - 1);
    }

    private static void tests(String readme) throws IOException {
        CHECK.due("how the tests are run", true, readme.contains("```sh\n.ci/run\n```"));
        try (Stream<Path> files = Files.list(TESTS)) {
            for (Object file : files.toArray()) {
                String name = ((Path) file).getFileName().toString();
                if (name.endsWith("Test.java")) {
                    String test = "`" + name.substring(0, name.length() - ".java".length()) + "`";
                    CHECK.due(test + " is told of", true, readme.contains(test));
                }
            }
        }
    }

    // ---- what it tells of calls that are not answered

    private static void mistakes() {
        ChaffInTheWind x = new ChaffInTheWind();
        CHECK.due("NONE", -1, ChaffInTheWind.NONE);
        CHECK.missing("sort", () -> x.sort(0, 0));
        CHECK.missing("price", () -> x.price(0, 0));
        CHECK.missing("row", () -> x.row(0));
    }
}
