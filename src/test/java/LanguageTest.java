import java.io.IOException;
import java.lang.reflect.Constructor;
import java.lang.reflect.Field;
import java.lang.reflect.Method;
import java.lang.reflect.Modifier;
import java.nio.file.Files;
import java.nio.file.Path;
import java.util.ArrayList;
import java.util.List;
import java.util.Set;
import java.util.TreeSet;
import java.util.regex.Matcher;
import java.util.regex.Pattern;

/** What can be seen of the rules of ../shared/LANGUAGE.md by the source and by the class. */
public final class LanguageTest {
    private static final String FACE = "coughs(1) drift(1) ending(1) even(1) fault(0) feast(0) feed(1) game(3) goBack(1) "
        + "howMany(1) judge(0) keep(1) keepBack(1) length(1) longest(2) mark(1) order(3) pick(1) round(4) said(1) seed(1) "
        + "silence(2) speaker(2) spoke(2) stem(1) tear(0) told(1) undo(0) write(2)";

    public static void main(String[] args) throws IOException {
        theFace();
        theClassesInside();
        theSource();
        Check.end();
    }

    private static void theFace() {
        Check.holds("rule 1: public and final", RopeWords.class.getModifiers() == (Modifier.PUBLIC | Modifier.FINAL));
        Set<String> names = new TreeSet<>();
        for (Method m : RopeWords.class.getDeclaredMethods()) {
            if (Modifier.isPublic(m.getModifiers())) {
                names.add(m.getName() + "(" + m.getParameterCount() + ")");
                Check.holds("face: " + m.getName() + " is an int", m.getReturnType() == int.class);
                Check.holds("face: " + m.getName() + " is no static", !Modifier.isStatic(m.getModifiers()));
                for (Class<?> type : m.getParameterTypes()) {
                    Check.holds("face: " + m.getName() + " takes ints", type == int.class);
                }
            } else {
                Check.holds("rule 1: " + m.getName() + " is private", Modifier.isPrivate(m.getModifiers()));
            }
        }
        Check.holds("face: " + names, String.join(" ", names).equals(FACE));
        for (Constructor<?> c : RopeWords.class.getDeclaredConstructors()) {
            Check.holds("face: the constructor", Modifier.isPublic(c.getModifiers()) && c.getParameterCount() == 0);
        }
        Set<String> constants = new TreeSet<>();
        for (Field f : RopeWords.class.getDeclaredFields()) {
            if (!Modifier.isPrivate(f.getModifiers())) {
                constants.add(f.getName());
            }
        }
        Check.holds("face: " + constants, constants.toString().equals("[FULL, NONE, NOT, OUTSIDE, UNKNOWN]"));
    }

    private static void theClassesInside() {
        List<String> face = new ArrayList<>();
        for (String name : FACE.split(" ")) {
            face.add(name.replaceAll("\\(.*", ""));
        }
        Class<?>[] inside = RopeWords.class.getDeclaredClasses();
        Check.holds("rule 11: twelve classes at most", inside.length + 1 <= 12);
        for (Class<?> c : inside) {
            Check.holds("rule 1: " + c + " is static", Modifier.isStatic(c.getModifiers()));
            Check.holds("rule 1: " + c + " is not public", !Modifier.isPublic(c.getModifiers()));
            int fields = 0;
            for (Field f : c.getDeclaredFields()) {
                fields += Modifier.isStatic(f.getModifiers()) ? 0 : 1;
                boolean isConstant = Modifier.isFinal(f.getModifiers());
                Check.holds("rule 5: " + c + "." + f.getName(), !Modifier.isStatic(f.getModifiers()) || isConstant);
            }
            Check.holds("rule 11: twenty fields at most in " + c, fields <= 20);
            for (Method m : c.getDeclaredMethods()) {
                Check.holds("rule 1: the name of " + m, !face.contains(m.getName()));
                Check.holds("rule 11: seven parameters at most in " + m, m.getParameterCount() <= 7);
            }
        }
        for (Method m : RopeWords.class.getDeclaredMethods()) {
            boolean isFace = Modifier.isPublic(m.getModifiers());
            Check.holds("rule 1: the name of " + m, isFace || !face.contains(m.getName()));
        }
    }

    private static void theSource() throws IOException {
        String whole = Files.readString(Path.of("src/main/java/RopeWords.java"));
        for (int i = 0; i < whole.length(); i++) {
            if (whole.charAt(i) > 126) {
                Check.holds("a sign above 126 at " + i, false);
            }
        }
        String code = whole.replaceAll("(?s)/\\*.*?\\*/", "").replaceAll("//[^\n]*", "");
        String[] barred = {"throw", "throws", "try", "catch", "finally", "synchronized", "assert", "package", "var", "native",
            "volatile", "transient", "Object", "Exception", "Random", "Thread", "System\\.out", "hashCode", "toString",
            "protected", "goto", "java\\.util\\.function", "Override"};
        for (String word : barred) {
            Check.holds("the source has " + word, !Pattern.compile("\\b" + word + "\\b").matcher(code).find());
        }
        Check.holds("rule 2: no lambda, no method reference", !code.contains("->") && !code.contains("::"));
        Check.holds("rule 4: none that end in Exact", !code.contains("Exact"));
        Matcher imports = Pattern.compile("import ([^;]*);").matcher(code);
        while (imports.find()) {
            Check.holds("rule 4: import of " + imports.group(1), imports.group(1).equals("java.util.Arrays"));
        }
        Matcher calls = Pattern.compile("\\b(Math|Integer|Long|Arrays|System)\\.(\\w+)").matcher(code);
        Set<String> fine = Set.of("abs", "max", "min", "bitCount", "fill", "copyOf", "copyOfRange", "arraycopy");
        while (calls.find()) {
            Check.holds("rule 4: " + calls.group(), fine.contains(calls.group(2)));
        }
        shortMethods(code);
    }

    /** A method begins at a line that ends in ") {" and ends at the brace of the same depth. */
    private static void shortMethods(String code) {
        String[] lines = code.split("\n");
        for (int i = 0; i < lines.length; i++) {
            Matcher head = Pattern.compile("^( {4}| {8})(public|private) .*\\) \\{$").matcher(lines[i]);
            if (head.find()) {
                int end = i;
                while (end < lines.length && !lines[end].equals(head.group(1) + "}")) {
                    end++;
                }
                Check.holds("rule 11: short: " + lines[i].trim(), end - i < 60);
            }
        }
    }
}
