import java.io.IOException;
import java.nio.charset.StandardCharsets;
import java.nio.file.Files;
import java.nio.file.Path;
import java.util.ArrayList;
import java.util.List;
import java.util.stream.Stream;

/** Each sentence of the document's terms and promises is named by a test; run in the project's root. */
public final class SentencesTest {
    private static final Path DOCUMENT = Path.of("../shared/DOC.md");
    private static final Path TESTS = Path.of("src/test/java");

    public static void main(String[] args) throws IOException {
        if (!Files.exists(DOCUMENT)) {
            System.out.println("no document here to compare the tests with");
            return;
        }
        String tests = textOfTests();
        List<String> due = dueCalls(Files.readString(DOCUMENT, StandardCharsets.UTF_8));
        Due.is("how many sentences there are is more than 100", due.size() > 100, true);
        for (String call : due) {
            Due.is("a test says " + call, tests.contains(call), true);
        }
        Due.end();
    }

    /** All tests as one text, in which a sentence that is joined over several lines is one again. */
    private static String textOfTests() throws IOException {
        StringBuilder text = new StringBuilder();
        try (Stream<Path> files = Files.list(TESTS)) {
            for (Path file : files.sorted().toList()) {
                text.append(Files.readString(file, StandardCharsets.UTF_8)).append('\n');
            }
        }
        return text.toString().replaceAll("\"\\s*\\+\\s*\"", "");
    }

    private static List<String> dueCalls(String document) {
        List<String> calls = new ArrayList<>();
        int promise = 0;
        boolean isInTerms = false;
        for (String line : document.replace("`", "").split("\\R")) {
            if (line.startsWith("## ")) {
                isInTerms = line.equals("## Terms");
                promise = line.startsWith("## Promise ") ? Integer.parseInt(line.split("[ :]+")[2]) : 0;
            } else if (isInTerms) {
                addTerms(calls, line);
            } else if (promise > 0) {
                addPromise(calls, promise, line);
            }
        }
        return calls;
    }

    private static void addTerms(List<String> calls, String line) {
        if (line.contains("the interface says:")) {
            return;
        }
        for (String sentence : line.split("[.;] |\\.$")) {
            boolean isHeading = sentence.equals("A minute") || sentence.equals("Complaints");
            if (!sentence.isEmpty() && !isHeading) {
                calls.add("Due.term(\"" + sentence + "\")");
            }
        }
    }

    /** Lines such as "street: the street" say nothing that could be broken. */
    private static void addPromise(List<String> calls, int promise, String line) {
        String sentence = line.replaceFirst("^- ", "").replaceFirst("^\\S.*\\).*?: (?=[A-Z])", "").replaceFirst("\\.$", "");
        if (!sentence.isEmpty() && !sentence.matches("(\\w+): the \\w+")) {
            calls.add("Due.promise(" + promise + ", \"" + sentence + "\")");
        }
    }
}
