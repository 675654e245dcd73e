import java.math.BigInteger;
import java.util.ArrayDeque;
import java.util.ArrayList;
import java.util.Deque;
import java.util.HashMap;
import java.util.List;
import java.util.Map;
import java.util.TreeMap;

/**
 * The document once more, by the most plodding means: all words listed, all rows of speakers tried,
 * all pairs of lengths said. ModelTest holds the class against it.
 */
final class NaiveRopeWords {
    static final int NONE = -1, UNKNOWN = -1000000001, OUTSIDE = -1000000002, NOT = -1000000003, FULL = -1000000004;

    /** What the numbers of a clause may be; null: a stem told by then. */
    private static final Map<Character, int[][]> SHAPES = Map.of(
        'g', new int[][] {{1, 4}, {0, 9}},
        's', new int[][] {{1, 9}},
        'e', new int[][] {{1, 5}},
        'p', new int[][] {{0, 1}, {1, 40}, {0, 99}, {0, 100}},
        'n', new int[][] {null, null});
    private static final Map<Character, Integer> MOST = Map.of('g', 1, 's', 6, 'e', 4, 'p', 10, 'n', 6);

    /** A text's clauses by their word, as rows of numbers. */
    private static final class Told {
        final Map<Character, List<int[]>> clauses = new HashMap<>();
        int fault;
        int faultAt = NONE;

        List<int[]> of(char word) {
            return clauses.computeIfAbsent(word, w -> new ArrayList<>());
        }
    }

    private static final class State {
        int rope;
        int rounds;
        List<Integer> words = new ArrayList<>();
        List<Integer> breath = new ArrayList<>();

        State copy() {
            State s = new State();
            s.rope = rope;
            s.rounds = rounds;
            s.words = new ArrayList<>(words);
            s.breath = new ArrayList<>(breath);
            return s;
        }
    }

    private final StringBuilder text = new StringBuilder();
    private Told told = new Told();
    private int faultAt = NONE;
    private TreeMap<Integer, Integer> words;
    private final Map<Integer, int[]> longestOf = new HashMap<>();
    private State now = new State();
    private final Deque<State> past = new ArrayDeque<>();
    private final State[] images = new State[2];
    private final long[] imageSeeds = new long[2];
    private final List<Integer> marks = new ArrayList<>();
    private final List<int[]> book = new ArrayList<>();
    private long seed;
    private final Map<String, Integer> games = new HashMap<>();

    int feed(int letter) {
        if (letter < 0 || letter > 255) {
            return OUTSIDE;
        }
        if (text.length() == 250) {
            return FULL;
        }
        text.append((char) letter);
        return text.length();
    }

    int feast() {
        Told next = read(text.toString());
        text.setLength(0);
        faultAt = next.faultAt;
        if (next.fault != 0) {
            return -10 - next.fault;
        }
        told = next;
        words = null;
        longestOf.clear();
        now = new State();
        for (int[] p : told.of('p')) {
            now.breath.add(p[1]);
        }
        past.clear();
        images[0] = null;
        images[1] = null;
        tear();
        return told.of('p').size();
    }

    /** Letter by letter: ' ' stands for where a clause may begin. */
    private static Told read(String text) {
        Told t = new Told();
        char clause = ' ';
        List<Integer> numbers = new ArrayList<>();
        int i = 0;
        while (i < text.length()) {
            char c = text.charAt(i);
            if (c == ' ') {
                i++;
            } else if (clause == ' ') {
                boolean isWord = SHAPES.containsKey(c);
                if (!isWord || (t.of('g').isEmpty() && c != 'g')) {
                    return failed(t, 1, i);
                }
                if (t.of(c).size() == MOST.get(c)) {
                    return failed(t, 3, i);
                }
                clause = c;
                numbers.clear();
                i++;
            } else if (numbers.size() < SHAPES.get(clause).length) {
                String figures = leadingFigures(text.substring(i));
                if (figures.isEmpty()) {
                    return failed(t, 1, i);
                }
                int[] bounds = SHAPES.get(clause)[numbers.size()];
                int low = bounds == null ? 0 : bounds[0];
                int high = bounds == null ? t.of('s').size() - 1 : bounds[1];
                if (figures.length() > 3 || Integer.parseInt(figures) < low || Integer.parseInt(figures) > high) {
                    return failed(t, 2, i);
                }
                numbers.add(Integer.parseInt(figures));
                if (clause == 'n' && numbers.size() == 2) {
                    for (int[] bar : t.of('n')) {
                        if (bar[0] == numbers.get(0) && bar[1] == numbers.get(1)) {
                            return failed(t, 4, i);
                        }
                    }
                }
                i += figures.length();
            } else if (c == ';') {
                t.of(clause).add(numbers.stream().mapToInt(Integer::intValue).toArray());
                clause = ' ';
                i++;
            } else {
                return failed(t, 1, i);
            }
        }
        return clause == ' ' ? t : failed(t, 1, text.length());
    }

    private static String leadingFigures(String s) {
        int n = 0;
        while (n < s.length() && "0123456789".indexOf(s.charAt(n)) >= 0) {
            n++;
        }
        return s.substring(0, n);
    }

    private static Told failed(Told t, int fault, int at) {
        t.fault = fault;
        t.faultAt = at;
        return t;
    }

    int fault() {
        return faultAt;
    }

    int told(int what) {
        int[] g = told.of('g').isEmpty() ? new int[] {0, 0} : told.of('g').get(0);
        int[] all = {g[0], g[1], told.of('s').size(), told.of('e').size(), told.of('p').size(), text.length(), now.rope,
            now.rounds, now.words.size(), marks.size(), book.size(), past.size()};
        return what < 0 || what >= all.length ? OUTSIDE : all[what];
    }

    int stem(int s) {
        return s < 0 || s >= told.of('s').size() ? UNKNOWN : told.of('s').get(s)[0];
    }

    int ending(int e) {
        return e < 0 || e >= told.of('e').size() ? UNKNOWN : told.of('e').get(e)[0];
    }

    int speaker(int p, int what) {
        if (p < 0 || p >= told.of('p').size()) {
            return UNKNOWN;
        }
        int[] t = told.of('p').get(p);
        int[] all = {t[0], t[1], now.breath.get(p), t[2], t[3]};
        return what < 0 || what >= all.length ? OUTSIDE : all[what];
    }

    int length(int word) {
        if (word < 10) {
            return NONE;
        }
        String s = Integer.toString(word);
        String stems = s.substring(0, s.length() - 1);
        int e = s.charAt(s.length() - 1) - '0';
        if (stems.length() > told(0) || e > told(3)) {
            return NONE;
        }
        int sum = e == 0 ? 0 : ending(e - 1);
        for (int i = 0; i < stems.length(); i++) {
            int stem = stems.charAt(i) - '1';
            if (stem < 0 || stem >= told(2)) {
                return NONE;
            }
            sum += stem(stem);
            for (int[] bar : told.of('n')) {
                if (i > 0 && bar[0] == stems.charAt(i - 1) - '1' && bar[1] == stem) {
                    return NONE;
                }
            }
        }
        return sum;
    }

    int said(int k) {
        return k < 0 || k >= now.words.size() ? NONE : now.words.get(k);
    }

    private boolean isOf(int side, int p) {
        return speaker(p, 0) == side;
    }

    private boolean cannotSay(int p, int word) {
        return word != NONE && (length(word) == NONE || now.words.contains(word) || length(word) > now.breath.get(p));
    }

    int round(int p, int v, int q, int w) {
        if (!isOf(0, p) || !isOf(1, q)) {
            return UNKNOWN;
        }
        if (cannotSay(p, v) || cannotSay(q, w) || (v != NONE && v == w)) {
            return NOT;
        }
        if (now.rounds > 90000) {
            return FULL;
        }
        remember();
        return play(p, v, q, w);
    }

    private void remember() {
        past.addLast(now.copy());
        if (past.size() > 20) {
            past.removeFirst();
        }
    }

    private int pull(int mine, int theirs, int weight) {
        if (mine <= theirs) {
            return 0;
        }
        int factor = 10 + weight / 10;
        return Math.max((mine - theirs) * factor / 10 - told(1), 0);
    }

    private int play(int p, int v, int q, int w) {
        int a = v == NONE ? 0 : length(v);
        int b = w == NONE ? 0 : length(w);
        int before = now.rope;
        int after = before - pull(a, b, speaker(p, 3)) + pull(b, a, speaker(q, 3));
        now.rope = after > 500 ? 500 : after < -500 ? -500 : after;
        for (int i = 0; i < now.breath.size(); i++) {
            if (i == p && v != NONE) {
                now.breath.set(i, now.breath.get(i) - a);
            } else if (i == q && w != NONE) {
                now.breath.set(i, now.breath.get(i) - b);
            } else {
                now.breath.set(i, Math.min(now.breath.get(i) + 1, speaker(i, 1)));
            }
        }
        if (v != NONE) {
            now.words.add(v);
        }
        if (w != NONE) {
            now.words.add(w);
        }
        while (now.words.size() > 40) {
            now.words.remove(0);
        }
        now.rounds++;
        return now.rope - before;
    }

    private int draw(int n) {
        BigInteger s = BigInteger.valueOf(seed).multiply(BigInteger.valueOf(1103515245));
        seed = s.add(BigInteger.valueOf(12345)).mod(BigInteger.ONE.shiftLeft(31)).longValue();
        return (int) (seed / 65536 % n);
    }

    private List<Integer> ofSide(int side) {
        List<Integer> found = new ArrayList<>();
        for (int p = 0; p < told(4); p++) {
            if (isOf(side, p)) {
                found.add(p);
            }
        }
        return found;
    }

    int drift(int n) {
        if (n < 1 || n > 99) {
            return OUTSIDE;
        }
        if (ofSide(0).isEmpty() || ofSide(1).isEmpty()) {
            return NOT;
        }
        if (now.rounds > 90000) {
            return FULL;
        }
        remember();
        for (int i = 0; i < n; i++) {
            int[] who = new int[2];
            int[] what = {NONE, NONE};
            for (int side = 0; side < 2; side++) {
                who[side] = ofSide(side).get(draw(ofSide(side).size()));
                boolean coughs = draw(100) < speaker(who[side], 4);
                int word = longest(now.breath.get(who[side]), 1);
                if (!coughs && !now.words.contains(word) && (side == 0 || word != what[0])) {
                    what[side] = word;
                }
            }
            play(who[0], what[0], who[1], what[1]);
        }
        return now.rope + 1000;
    }

    int undo() {
        if (past.isEmpty()) {
            return NOT;
        }
        now = past.removeLast();
        return past.size();
    }

    private TreeMap<Integer, Integer> words() {
        if (words == null) {
            words = new TreeMap<>();
            int end = (int) Math.pow(10, told(0) + 1);
            for (int word = 10; word < end; word++) {
                int l = length(word);
                if (l != NONE) {
                    words.put(word, l);
                }
            }
        }
        return words;
    }

    int longest(int b, int what) {
        if (b < 0 || b > 99 || (what != 0 && what != 1)) {
            return OUTSIDE;
        }
        return longestOf.computeIfAbsent(b, this::searchLongest)[what];
    }

    private int[] searchLongest(int b) {
        int best = NONE;
        int length = NONE;
        for (Map.Entry<Integer, Integer> word : words().entrySet()) {
            if (word.getValue() <= b && word.getValue() > length) {
                best = word.getKey();
                length = word.getValue();
            }
        }
        return new int[] {length, best};
    }

    int howMany(int l) {
        if (l < 0 || l > 99) {
            return OUTSIDE;
        }
        return (int) words().values().stream().filter(x -> x == l).count();
    }

    int game(int n, int set, int last) {
        if (n < 1 || n > 10 || last < 0 || last > n || set < 0 || set > (1 << n) - 1) {
            return OUTSIDE;
        }
        List<Integer> left = new ArrayList<>();
        for (int l = 1; l <= n; l++) {
            if ((set & 1 << (l - 1)) != 0) {
                left.add(l);
            }
        }
        return left.contains(last) ? OUTSIDE : value(left, last) + 1000;
    }

    private int value(List<Integer> left, int last) {
        if (left.isEmpty()) {
            return 0;
        }
        String key = left + " " + last;
        if (games.containsKey(key)) {
            return games.get(key);
        }
        Integer best = null;
        for (Integer l : left) {
            if (last == 0 || l != last + 1) {
                List<Integer> rest = new ArrayList<>(left);
                rest.remove(l);
                int gain = l - value(rest, l);
                best = best == null ? gain : Math.max(best, gain);
            }
        }
        games.put(key, best == null ? -5 : best);
        return games.get(key);
    }

    private List<Integer> bestRow;
    private int bestSum;

    int order(int side, int v, int i) {
        if (side != 0 && side != 1) {
            return UNKNOWN;
        }
        if (v < 0 || v > 40) {
            return OUTSIDE;
        }
        if (ofSide(side).size() > 6) {
            return NOT;
        }
        bestRow = null;
        bestSum = -1;
        tryRows(ofSide(side), new ArrayList<>(), new ArrayList<>(now.breath), v, 0);
        if (i == NONE) {
            return bestSum;
        }
        return i < 0 || i >= bestRow.size() ? NONE : bestRow.get(i);
    }

    private void tryRows(List<Integer> left, List<Integer> row, List<Integer> breath, int v, int sum) {
        if (left.isEmpty()) {
            if (sum > bestSum) {
                bestSum = sum;
                bestRow = new ArrayList<>(row);
            }
            return;
        }
        for (Integer p : left) {
            int mine = Math.max(0, longest(breath.get(p), 0));
            int theirs = Math.max(0, v - row.size());
            List<Integer> after = new ArrayList<>();
            for (int i = 0; i < breath.size(); i++) {
                after.add(i == p ? breath.get(i) - mine : Math.min(speaker(i, 1), breath.get(i) + 1));
            }
            List<Integer> rest = new ArrayList<>(left);
            rest.remove(p);
            List<Integer> longer = new ArrayList<>(row);
            longer.add(p);
            tryRows(rest, longer, after, v, sum + pull(mine, theirs, speaker(p, 3)));
        }
    }

    int even(int what) {
        if (what != 0 && what != 1) {
            return OUTSIDE;
        }
        int sum0 = ofSide(0).stream().mapToInt(p -> speaker(p, 3)).sum();
        int sum1 = ofSide(1).stream().mapToInt(p -> speaker(p, 3)).sum();
        if (what == 1) {
            return Math.max(sum0, sum1) - Math.min(sum0, sum1);
        }
        return sum0 == sum1 ? NONE : sum0 < sum1 ? 0 : 1;
    }

    int silence(int p, int q) {
        if (!isOf(0, p) || !isOf(1, q)) {
            return UNKNOWN;
        }
        int a = longest(now.breath.get(p), 0);
        int b = longest(now.breath.get(q), 0);
        int[][] of0 = new int[2][2];
        int[][] of1 = new int[2][2];
        for (int x = 0; x < 2; x++) {
            for (int y = 0; y < 2; y++) {
                int mine = x == 0 ? 0 : Math.max(a, 0);
                int theirs = y == 0 ? 0 : Math.max(b, 0);
                int net = pull(mine, theirs, speaker(p, 3)) - pull(theirs, mine, speaker(q, 3));
                of0[x][y] = net - x;
                of1[x][y] = -net - y;
            }
        }
        int set = 0;
        for (int x = 0; x < (a == NONE ? 1 : 2); x++) {
            for (int y = 0; y < (b == NONE ? 1 : 2); y++) {
                boolean better0 = a != NONE && of0[1 - x][y] > of0[x][y];
                boolean better1 = b != NONE && of1[x][1 - y] > of1[x][y];
                if (!better0 && !better1) {
                    set += 1 << (x + 2 * y);
                }
            }
        }
        return set;
    }

    int pick(int what) {
        if (what != 0 && what != 1) {
            return OUTSIDE;
        }
        int n = told(4);
        int best = NONE;
        int least = Integer.MAX_VALUE;
        for (int set = 0; set < 1 << n; set++) {
            int in = 0;
            int out = 0;
            int many = 0;
            for (int p = 0; p < n; p++) {
                if ((set & 1 << p) != 0) {
                    in += speaker(p, 3);
                    many++;
                } else {
                    out += speaker(p, 3);
                }
            }
            if ((many == n - many || many == n - many + 1) && Math.abs(in - out) < least) {
                best = set;
                least = Math.abs(in - out);
            }
        }
        return what == 0 ? best : least;
    }

    int coughs(int set) {
        long odds = 1000000000;
        for (int p = 0; p < 32; p++) {
            if ((set >>> p & 1) != 0) {
                if (p >= told(4)) {
                    return UNKNOWN;
                }
                odds = odds * (100 - speaker(p, 4)) / 100;
            }
        }
        return (int) odds;
    }

    int keepBack(int side) {
        if (side != 0 && side != 1) {
            return UNKNOWN;
        }
        int best = NONE;
        for (int p : ofSide(side)) {
            if (best == NONE || speaker(p, 3) * (100 - speaker(p, 4)) < speaker(best, 3) * (100 - speaker(best, 4))) {
                best = p;
            }
        }
        return best;
    }

    int mark(int d) {
        if (d < -99 || d > 99) {
            return OUTSIDE;
        }
        if (marks.size() == 8) {
            return FULL;
        }
        marks.add(d);
        return marks.size();
    }

    int spoke(int k, int i) {
        if (k < 0 || k >= marks.size()) {
            return NONE;
        }
        List<Integer> found = new ArrayList<>();
        for (int p : ofSide(0)) {
            for (int q : ofSide(1)) {
                if (moves(p, q, marks.get(k))) {
                    found.add(10 * p + q);
                }
            }
        }
        if (i == NONE) {
            return found.size();
        }
        return i < 0 || i >= found.size() ? NONE : found.get(i);
    }

    private boolean moves(int p, int q, int d) {
        for (int a = 0; a <= speaker(p, 1); a++) {
            for (int b = 0; b <= speaker(q, 1); b++) {
                boolean can = (a == 0 || longest(a, 0) == a) && (b == 0 || longest(b, 0) == b);
                if (can && pull(b, a, speaker(q, 3)) - pull(a, b, speaker(p, 3)) == d) {
                    return true;
                }
            }
        }
        return false;
    }

    int write(int rounds, int rope) {
        if (rounds < 0 || rounds > 999 || rope < -500 || rope > 500) {
            return OUTSIDE;
        }
        if (book.size() == 15) {
            return FULL;
        }
        book.add(new int[] {rounds, rope});
        return book.size();
    }

    int tear() {
        int both = marks.size() + book.size();
        marks.clear();
        book.clear();
        return both;
    }

    int judge() {
        for (int[] entry : book) {
            if (entry[0] == now.rounds && entry[1] != now.rope) {
                return book.indexOf(entry);
            }
        }
        return NONE;
    }

    int seed(int v) {
        if (v < 0) {
            return OUTSIDE;
        }
        long was = seed;
        seed = v;
        return (int) was;
    }

    int keep(int i) {
        if (i != 0 && i != 1) {
            return UNKNOWN;
        }
        images[i] = now.copy();
        imageSeeds[i] = seed;
        past.clear();
        return 1;
    }

    int goBack(int i) {
        if (i != 0 && i != 1) {
            return UNKNOWN;
        }
        if (images[i] == null) {
            return NOT;
        }
        now = images[i].copy();
        seed = imageSeeds[i];
        past.clear();
        return 1;
    }
}
