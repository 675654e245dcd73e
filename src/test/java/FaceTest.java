import java.io.IOException;
import java.nio.file.Files;
import java.nio.file.Path;
import java.util.ArrayList;
import java.util.List;
import java.util.regex.Matcher;
import java.util.regex.Pattern;

/** The public face: as ../shared/DOC.md writes it out, in its order, with what the interface says ahead of the calls. */
public final class FaceTest {
    private static final Pattern CALL = Pattern.compile("public int (\\w+)\\(([^)]*)\\)");

    private FaceTest() {
    }

    public static void main(String[] args) throws IOException {
        String document = Files.readString(Path.of("../shared/DOC.md"));
        String source = Files.readString(Path.of("src/main/java/RopeWords.java"));
        String face = between(document, "```java\n", "```");
        theConstants(face);
        Check.holds("the constants' line", source.contains("\n" + lineWith(face, "NONE = -1") + "\n"));
        Check.holds("the constructor", source.contains(lineWith(face, "RopeWords()").replace(";", " {")));
        theCalls(face, source);
        thePromises(face, document);
        whatTheInterfaceSays(document, source);
        Check.end();
    }

    private static String between(String text, String head, String tail) {
        int from = text.indexOf(head);
        int to = text.indexOf(tail, from + head.length());
        Check.holds(head.trim() + " is there", from >= 0 && to >= 0);
        return from < 0 || to < 0 ? "" : text.substring(from + head.length(), to);
    }

    private static String lineWith(String text, String part) {
        for (String line : text.split("\n")) {
            if (line.contains(part)) {
                return line;
            }
        }
        return "(no line with " + part + ")";
    }

    private static void theConstants(String face) {
        int[] values = {RopeWords.NONE, RopeWords.UNKNOWN, RopeWords.OUTSIDE, RopeWords.NOT, RopeWords.FULL};
        Matcher constant = Pattern.compile("\\b([A-Z]+) = (-?\\d+)").matcher(face);
        for (int value : values) {
            Check.holds("one more constant", constant.find());
            Check.due(constant.group(1), value, Integer.parseInt(constant.group(2)));
        }
        Check.holds("no constant more", !constant.find());
    }

    private static List<String> calls(String text) {
        List<String> found = new ArrayList<>();
        Matcher call = CALL.matcher(text);
        while (call.find()) {
            found.add(call.group());
        }
        return found;
    }

    private static void theCalls(String face, String source) {
        List<String> due = calls(face);
        Check.due("how many calls", due.size(), 29);
        Check.holds("the calls and their order: " + calls(source), calls(source).equals(due));
    }

    /** Each call has a promise, behind that of the new object: else the document was read amiss here. */
    private static void thePromises(String face, String document) {
        int promise = 2;
        for (String call : calls(face)) {
            String head = "## Promise " + promise + ": " + call.replaceAll("public int (\\w+).*", "$1") + "\n";
            Check.holds(head.trim(), document.contains(head));
            Check.holds(call, document.contains("`" + call.substring("public ".length()) + "`"));
            promise++;
        }
    }

    private static void whatTheInterfaceSays(String document, String source) {
        Matcher said = Pattern.compile("Ahead of the calls (.*) the interface says: (----.*)\\.\n").matcher(document);
        int parts = 0;
        while (said.find()) {
            parts++;
            String behind = between(source, "    // " + said.group(2) + "\n", "    // ----");
            List<String> names = new ArrayList<>();
            Matcher call = CALL.matcher(behind);
            while (call.find()) {
                names.add("`" + call.group(1) + "`");
            }
            Check.holds(said.group(2) + " stands ahead of " + names, String.join(", ", names).equals(said.group(1)));
        }
        Check.due("parts of the interface", parts, 4);
    }
}
