import java.io.IOException;
import java.nio.charset.StandardCharsets;
import java.nio.file.Files;
import java.nio.file.Path;
import java.util.List;

/** What of LANGUAGE.md can be seen in the text of the class; run in the project's root. */
public final class LanguageTest {
    private static final Path SOURCE = Path.of("src/main/java/LanternDesk.java");
    private static final String[] RULED_OUT = {
        "->", "::", "finally", "synchronized", "assert ", "package ", "import static", "try ", "catch ",
        "Exact(", "System.out", "System.in", "currentTime", "nanoTime", "Random", "Thread", "getMessage",
        "equals(", "hashCode(", "toString(", "Object ", "Map<", "Set<", "String.format", ".stream(", " var "
    };
    private static final int LONGEST_METHOD = 60;

    public static void main(String[] args) throws IOException {
        String text = Files.readString(SOURCE, StandardCharsets.UTF_8);
        for (String part : RULED_OUT) {
            Due.is("the class's text holds \"" + part + "\"", text.contains(part), false);
        }
        List<String> lines = text.lines().toList();
        for (int i = 0; i < lines.size(); i++) {
            checkLine(lines.get(i), "line " + (i + 1));
        }
        Due.is("the longest method is short", longestMethod(lines) <= LONGEST_METHOD, true);
        Due.end();
    }

    private static void checkLine(String line, String where) {
        if (line.startsWith("import ")) {
            Due.is(where + ", what it imports", line.matches("import java\\.util\\.(ArrayList|List|Arrays|Iterator);"), true);
        }
        if (line.contains("throw ")) {
            Due.is(where + ", how it throws",
                    line.trim().matches("throw new (IndexOutOfBounds|IllegalArgument|IllegalState)Exception\\(\"[^\"]*\"\\);"),
                    true);
        }
        Due.is(where + ", a text joined by +", line.contains("\" +") || line.contains("+ \""), false);
        Due.is(where + ", signs behind 127", line.chars().allMatch(sign -> sign < 128), true);
    }

    /** Methods open at a brace that stands at one indent and close at the same indent. */
    private static int longestMethod(List<String> lines) {
        int longest = 0;
        for (String indent : new String[] {"    ", "        "}) {
            int start = 0;
            for (int i = 0; i < lines.size(); i++) {
                String line = lines.get(i);
                if (line.matches(indent + "\\S.*\\{")) {
                    start = line.contains(" class ") ? lines.size() : i;
                } else if (line.equals(indent + "}")) {
                    longest = Math.max(longest, i - start + 1);
                }
            }
        }
        return longest;
    }
}
