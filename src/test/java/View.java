import java.util.ArrayList;
import java.util.LinkedHashMap;
import java.util.List;
import java.util.Map;
import java.util.function.Function;

/**
 * All that can be seen of an object by its calls. Some of them change it, and an object is good for
 * 512 calls: so the view has parts, and each part takes an object of its own, made alike.
 */
final class View {
    static final Map<String, Function<RopeWords, List<Integer>>> PARTS = new LinkedHashMap<>();

    static {
        PARTS.put("what was told", View::whatWasTold);
        PARTS.put("what is so", View::whatIsSo);
        PARTS.put("what is tried", View::whatIsTried);
        PARTS.put("what can be undone", View::whatCanBeUndone);
        PARTS.put("image 0", x -> image(x, 0));
        PARTS.put("image 1", x -> image(x, 1));
        PARTS.put("marks and book", View::marksAndBook);
        PARTS.put("the text", View::text);
    }

    private View() {
    }

    private static List<Integer> whatWasTold(RopeWords x) {
        List<Integer> seen = new ArrayList<>();
        for (int what = 0; what < 12; what++) {
            seen.add(x.told(what));
        }
        for (int s = 0; s < 6; s++) {
            seen.add(x.stem(s));
        }
        for (int e = 0; e < 4; e++) {
            seen.add(x.ending(e));
        }
        for (int p = 0; p < 10; p++) {
            for (int what = 0; what < 5; what++) {
                seen.add(x.speaker(p, what));
            }
        }
        for (int a = 1; a <= 6; a++) {
            for (int b = 1; b <= 6; b++) {
                seen.add(x.length(100 * a + 10 * b));
            }
        }
        return seen;
    }

    private static List<Integer> whatIsSo(RopeWords x) {
        List<Integer> seen = new ArrayList<>();
        seen.add(x.seed(0));
        seen.add(x.told(6));
        seen.add(x.told(7));
        for (int p = 0; p < 10; p++) {
            seen.add(x.speaker(p, 2));
        }
        for (int k = 0; k < 41; k++) {
            seen.add(x.said(k));
        }
        return seen;
    }

    private static List<Integer> whatIsTried(RopeWords x) {
        List<Integer> seen = new ArrayList<>();
        for (int b = 0; b <= 42; b++) {
            seen.add(x.longest(b, 1));
            seen.add(x.howMany(b));
        }
        for (int i = -1; i < 6; i++) {
            seen.add(x.order(0, 3, i));
            seen.add(x.order(1, 3, i));
        }
        for (int what = 0; what < 2; what++) {
            seen.add(x.even(what));
            seen.add(x.pick(what));
            seen.add(x.keepBack(what));
        }
        for (int p = 0; p < 10; p++) {
            seen.add(x.coughs(1 << p));
            seen.add(x.silence(p, 1));
        }
        seen.add(x.game(10, 1023, 0));
        return seen;
    }

    private static List<Integer> whatCanBeUndone(RopeWords x) {
        List<Integer> seen = new ArrayList<>();
        for (int i = 0; i <= 20; i++) {
            seen.add(x.undo());
            seen.add(x.told(6));
            seen.add(x.told(7));
            seen.add(x.told(8));
            seen.add(x.said(0));
            seen.add(x.said(x.told(8) - 1));
            for (int p = 0; p < 4; p++) {
                seen.add(x.speaker(p, 2));
            }
        }
        return seen;
    }

    private static List<Integer> image(RopeWords x, int i) {
        List<Integer> seen = new ArrayList<>();
        seen.add(x.goBack(i));
        seen.addAll(whatIsSo(x));
        return seen;
    }

    /** An entry shows only when just so many rounds were played: so some are. */
    private static List<Integer> marksAndBook(RopeWords x) {
        List<Integer> seen = new ArrayList<>();
        for (int k = 0; k < 9; k++) {
            for (int i = -1; i < 4; i++) {
                seen.add(x.spoke(k, i));
            }
        }
        for (int i = 0; i < 10; i++) {
            seen.add(x.judge());
            seen.add(x.drift(1));
        }
        seen.add(x.tear());
        return seen;
    }

    private static List<Integer> text(RopeWords x) {
        List<Integer> seen = new ArrayList<>();
        seen.add(x.told(5));
        seen.add(x.feast());
        seen.add(x.fault());
        seen.addAll(whatWasTold(x));
        return seen;
    }
}
