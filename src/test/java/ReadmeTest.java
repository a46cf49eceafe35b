import java.io.IOException;
import java.nio.file.Files;
import java.nio.file.Path;
import java.util.List;
import java.util.regex.Pattern;
import java.util.stream.Collectors;
import java.util.stream.Stream;

/** README.md: its example answers what it says, and it names every test; run from the project's folder. */
public final class ReadmeTest {
    private static final Path TESTS = Path.of("src/test/java");

    public static void main(String[] args) throws IOException {
        List<String> lines = Files.readAllLines(Path.of("README.md"));
        example(lines);
        everyTestIsNamed(lines);
        Check.end("ReadmeTest");
    }

    private static void example(List<String> lines) {
        TenancyDeposits book = new TenancyDeposits();
        int tenancy = book.begin(100000);
        shown(lines, "book.begin(100000)", tenancy, 0);
        int carpet = book.addItem(tenancy, 50000, 1000, 100, 90);
        shown(lines, "book.addItem(tenancy, 50000, 1000, 100, 90)", carpet, 0);
        int table = book.addItem(tenancy, 20000, 400, 0, 100);
        shown(lines, "book.addItem(tenancy, 20000, 400, 0, 100)", table, 1);
        shown(lines, "book.pass(200)", book.pass(200), 200);
        shown(lines, "book.end(tenancy)", book.end(tenancy), 200);
        shown(lines, "book.inspect(carpet, 30)", book.inspect(carpet, 30), 14000);
        shown(lines, "book.claim(carpet, 30000)", book.claim(carpet, 30000), 0);
        shown(lines, "book.claim(table, 2000)", book.claim(table, 2000), 0);
        shown(lines, "book.claimRent(tenancy, 10000)", book.claimRent(tenancy, 10000), 0);
        shown(lines, "book.put(tenancy)", book.put(tenancy), 2);
        Check.type(book, "0d1,1a");
        shown(lines, "book.readAnswers()", book.readAnswers(), 1);
        shown(lines, "book.setEvidence(carpet, 3, 1)", book.setEvidence(carpet, 3, 1), 26000);
        shown(lines, "book.reason(carpet)", book.reason(carpet), 3);
        shown(lines, "book.outcome(tenancy, 5)", book.outcome(tenancy, 5), 101095);
        shown(lines, "book.close(tenancy)", book.close(tenancy), 58761);
        shown(lines, "book.outcome(tenancy, 1)", book.outcome(tenancy, 1), 38000);
        shown(lines, "book.undo()", book.undo(), 3);
        shown(lines, "book.tenancy(tenancy, 2)", book.tenancy(tenancy, 2), 2);
    }

    /** The answer is due, and stands behind the call in the example. */
    private static void shown(List<String> lines, String call, int got, int want) {
        Check.due(call, got, want);
        Pattern line = Pattern.compile(".*" + Pattern.quote(call + ";") + " +// " + want + "(\\D.*)?");
        Check.dueTrue("README.md shows " + call + " with " + want,
            lines.stream().anyMatch(text -> line.matcher(text).matches()));
    }

    private static void everyTestIsNamed(List<String> lines) throws IOException {
        for (String name : testsThatAreThere()) {
            Check.dueTrue("README.md names " + name,
                lines.stream().anyMatch(text -> text.startsWith("| `" + name + "` |")));
        }
    }

    private static List<String> testsThatAreThere() throws IOException {
        try (Stream<Path> files = Files.list(TESTS)) {
            return files.map(file -> file.getFileName().toString())
                .filter(name -> name.endsWith("Test.java"))
                .map(name -> name.substring(0, name.length() - ".java".length()))
                .collect(Collectors.toList());
        }
    }
}
