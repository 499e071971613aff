import java.io.IOException;
import java.lang.reflect.Method;
import java.lang.reflect.Modifier;
import java.nio.charset.StandardCharsets;
import java.nio.file.Files;
import java.nio.file.Path;
import java.util.LinkedHashMap;
import java.util.List;
import java.util.Map;
import java.util.StringJoiner;

/** The README's example answers as it says, and its table names the whole face; run in the project's root. */
public final class ReadmeTest {
    private static final Path README = Path.of("README.md");
    private static final String START = "```java\n";
    private static final String END = "```\n";
    private static final String MAKING = "LanternDesk desk = new LanternDesk();";

    private ReadmeTest() {
    }

    public static void main(String[] args) throws IOException {
        String text = Files.readString(README, StandardCharsets.UTF_8);
        int start = text.indexOf(START);
        int end = start < 0 ? -1 : text.indexOf(END, start + START.length());
        Due.is("the README has an example", end > start, true);
        if (end > start) {
            answersAsItSays(text.substring(start + START.length(), end).lines().toList());
        }
        namesTheWholeFace(text.lines().filter(line -> line.startsWith("| `")).toList());
        Due.end();
    }

    /** The example's calls, in their order. */
    private static Map<String, Due.Call> exampleOn(LanternDesk desk) {
        Map<String, Due.Call> calls = new LinkedHashMap<>();
        calls.put("desk.setStreet(0, 2, true);", () -> desk.setStreet(0, 2, true));
        calls.put("desk.pay(0, 100);", () -> desk.pay(0, 100));
        calls.put("desk.vote(0, 1, 3);", () -> desk.vote(0, 1, 3));
        calls.put("desk.ask(0, 3);", () -> desk.ask(0, 3));
        calls.put("desk.pass(10);", () -> desk.pass(10));
        calls.put("desk.state(0);", () -> desk.state(0));
        calls.put("desk.escortOf(0);", () -> desk.escortOf(0));
        calls.put("desk.purse(0);", () -> desk.purse(0));
        calls.put("desk.dark(0);", () -> desk.dark(0));
        calls.put("desk.shows(0, 0, 0);", () -> desk.shows(0, 0, 0));
        calls.put("desk.complain(0, true);", () -> desk.complain(0, true));
        calls.put("desk.night();", desk::night);
        return calls;
    }

    private static void answersAsItSays(List<String> lines) {
        StringJoiner want = new StringJoiner("\n").add(MAKING);
        for (Map.Entry<String, Due.Call> call : exampleOn(new LanternDesk()).entrySet()) {
            want.add(call.getKey() + " // " + Due.outcome(call.getValue()));
        }
        StringJoiner got = new StringJoiner("\n");
        for (String line : lines) {
            got.add(line.replaceFirst("; +// ", "; // ").replaceFirst("(// \\S+): .*", "$1"));
        }
        Due.is("the README's example", got.toString(), want.toString());
    }

    /** What the table says of parameters is compared by their number alone: the class file has no names of them. */
    private static void namesTheWholeFace(List<String> rows) {
        for (Method method : LanternDesk.class.getDeclaredMethods()) {
            if (Modifier.isPublic(method.getModifiers())) {
                int count = method.getParameterCount();
                String parameters = count == 0 ? "" : "\\w+(, \\w+){" + (count - 1) + "}";
                String row = "\\|.*`" + method.getName() + "\\(" + parameters + "\\)`.*\\|.*";
                Due.is("the README's table has " + method.getName(), rows.stream().anyMatch(line -> line.matches(row)), true);
            }
        }
    }
}
