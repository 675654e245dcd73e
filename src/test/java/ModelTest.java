import java.util.Random;

/** Runs of calls by chance (always the same ones) on the class and on the naive model of it. */
public final class ModelTest {
    private static final int RUNS = 2500;
    private static final int CALLS = 512;
    private static final int[] EDGES = {Integer.MIN_VALUE, Integer.MAX_VALUE, -2, -1, 0, 1, 2, 10, 31, 32, 33, 64, 99, 100,
        -99, -100, 500, -500, 501, -501, 999, 1000, 1023, 1024, RopeWords.UNKNOWN, 1 << 30, 66664, 66660};

    private static Random random;
    private static RopeWords real;
    private static NaiveRopeWords model;
    private static StringBuilder calls;
    private static int left;
    private static boolean wrong;
    private static final int[] refusals = new int[5];

    private ModelTest() {
    }

    public static void main(String[] args) {
        for (int run = 0; run < RUNS && !wrong; run++) {
            random = new Random(run);
            real = new RopeWords();
            model = new NaiveRopeWords();
            calls = new StringBuilder();
            left = CALLS;
            int kind = random.nextInt(4);
            if (kind > 0) {
                feed(kind == 3 ? text(4) : text(random.nextInt(3)));
                compare("feast()", real.feast(), model.feast());
            }
            while (left > 0 && !wrong) {
                step();
            }
            Check.holds("run " + run + " is as the model has it; calls:" + (wrong ? calls : ""), !wrong);
        }
        for (int i = 1; i < 4; i++) {
            Check.holds("refusals were met", refusals[i] > 100);
        }
        Check.end();
    }

    private static void compare(String call, int got, int want) {
        left--;
        calls.append("\n  ").append(call).append(" = ").append(got);
        int refusal = RopeWords.UNKNOWN - got;
        if (refusal >= 0 && refusal < 4) {
            refusals[refusal + 1]++;
        }
        if (got != want) {
            calls.append(", the model has ").append(want);
            wrong = true;
        }
    }

    private static void feed(String text) {
        for (int i = 0; i < text.length() && left > 0; i++) {
            compare("feed(" + (int) text.charAt(i) + ")", real.feed(text.charAt(i)), model.feed(text.charAt(i)));
        }
    }

    /** Sizes 0 to 2: small to great; 4: with many speakers of long breath. */
    private static String text(int size) {
        StringBuilder t = new StringBuilder();
        t.append("g").append(size == 4 ? 4 : 1 + random.nextInt(4)).append(' ').append(random.nextInt(random.nextBoolean() ? 2 : 10)).append(';');
        int stems = 0;
        int clauses = 3 + random.nextInt(5 + 6 * size);
        for (int i = 0; i < clauses; i++) {
            switch (random.nextInt(8)) {
                case 0: case 1:
                    t.append("s").append(1 + random.nextInt(9)).append(';');
                    stems++;
                    break;
                case 2:
                    t.append("e").append(1 + random.nextInt(5)).append(';');
                    break;
                case 3:
                    int span = Math.max(1, stems);
                    t.append("n").append(random.nextInt(span)).append(' ').append(random.nextInt(span)).append(';');
                    break;
                default:
                    t.append("p").append(random.nextInt(2)).append(' ').append(1 + random.nextInt(40)).append(' ');
                    t.append(random.nextInt(100)).append(' ').append(random.nextInt(3) == 0 ? random.nextInt(101) : random.nextInt(10)).append(';');
            }
        }
        if (random.nextInt(4) == 0) {
            spoil(t);
        }
        return t.length() > 250 ? t.substring(0, t.lastIndexOf(";", 249) + 1) : t.toString();
    }

    private static void spoil(StringBuilder t) {
        String signs = "gsepn; 0123456789xG\t\u00ff";
        for (int i = 1 + random.nextInt(3); i > 0; i--) {
            int at = random.nextInt(t.length());
            char sign = signs.charAt(random.nextInt(signs.length()));
            switch (random.nextInt(3)) {
                case 0: t.insert(at, sign); break;
                case 1: t.setCharAt(at, sign); break;
                default: t.deleteCharAt(at);
            }
            if (t.length() == 0) {
                t.append(' ');
            }
        }
    }

    private static int small(int end) {
        if (random.nextInt(12) == 0) {
            return EDGES[random.nextInt(EDGES.length)];
        }
        return random.nextInt(end + 2) - 1;
    }

    private static int speakerOf(int side) {
        if (random.nextInt(10) > 0) {
            for (int tries = 0; tries < 20; tries++) {
                int p = random.nextInt(10);
                if (model.speaker(p, 0) == side) {
                    return p;
                }
            }
        }
        return small(10);
    }

    private static int word(int p) {
        int kind = random.nextInt(8);
        if (kind == 0) {
            return -1;
        }
        if (kind == 1) {
            return small(70000);
        }
        if (kind == 2) {
            return model.longest(Math.max(0, Math.min(99, model.speaker(p, 2))), 1);
        }
        int word = 0;
        for (int i = random.nextInt(Math.max(1, model.told(0))); i >= 0; i--) {
            word = word * 10 + 1 + random.nextInt(Math.max(1, model.told(2)));
        }
        return word * 10 + random.nextInt(model.told(3) + 1);
    }

    private static void step() {
        switch (random.nextInt(12)) {
            case 0: case 1: case 2: doSomething(); break;
            case 3: case 4: ask(); break;
            case 5: case 6: tryWords(); break;
            case 7: case 8: trySides(); break;
            case 9: case 10: note(); break;
            default:
                if (random.nextInt(25) == 0) {
                    feed(text(random.nextInt(2)));
                    compare("feast()", real.feast(), model.feast());
                } else if (random.nextInt(60) == 0) {
                    compare("feast()", real.feast(), model.feast());
                } else {
                    compare("fault()", real.fault(), model.fault());
                }
        }
        if (left > 0 && !wrong && random.nextInt(3) == 0) {
            int what = random.nextInt(14) - 1;
            compare("told(" + what + ")", real.told(what), model.told(what));
        }
    }

    private static void doSomething() {
        switch (random.nextInt(10)) {
            case 0: case 1: {
                int n = random.nextInt(3) == 0 ? small(100) : 1 + random.nextInt(5);
                compare("drift(" + n + ")", real.drift(n), model.drift(n));
                break;
            }
            case 2: compare("undo()", real.undo(), model.undo()); break;
            case 3: {
                int i = random.nextInt(4) - 1;
                if (random.nextInt(3) == 0) {
                    compare("keep(" + i + ")", real.keep(i), model.keep(i));
                } else if (random.nextInt(3) == 0) {
                    compare("goBack(" + i + ")", real.goBack(i), model.goBack(i));
                }
                break;
            }
            default: {
                int p = speakerOf(0);
                int q = speakerOf(1);
                int v = word(p);
                int w = word(q);
                String call = "round(" + p + ", " + v + ", " + q + ", " + w + ")";
                compare(call, real.round(p, v, q, w), model.round(p, v, q, w));
            }
        }
    }

    private static void ask() {
        int k = small(10);
        switch (random.nextInt(6)) {
            case 0: compare("stem(" + k + ")", real.stem(k), model.stem(k)); break;
            case 1: compare("ending(" + k + ")", real.ending(k), model.ending(k)); break;
            case 2: {
                int what = small(5);
                compare("speaker(" + k + ", " + what + ")", real.speaker(k, what), model.speaker(k, what));
                break;
            }
            case 3: {
                int w = word(0);
                compare("length(" + w + ")", real.length(w), model.length(w));
                break;
            }
            case 4: {
                int i = small(42);
                compare("said(" + i + ")", real.said(i), model.said(i));
                break;
            }
            default: compare("speaker(" + k + ", 2)", real.speaker(k, 2), model.speaker(k, 2));
        }
    }

    private static void tryWords() {
        int b = random.nextBoolean() ? small(45) : small(100);
        switch (random.nextInt(3)) {
            case 0: {
                int what = random.nextInt(5) == 0 ? small(2) : random.nextInt(2);
                compare("longest(" + b + ", " + what + ")", real.longest(b, what), model.longest(b, what));
                break;
            }
            case 1: compare("howMany(" + b + ")", real.howMany(b), model.howMany(b)); break;
            default: {
                int n = small(11);
                int shown = n < 1 || n > 10 ? 3 : n;
                int last = random.nextInt(10) == 0 ? small(11) : random.nextInt(shown + 1);
                int set = random.nextInt(10) == 0 ? small(2000) : random.nextInt(1 << shown);
                if (last > 0 && last < 11 && random.nextInt(10) > 0) {
                    set &= ~(1 << (last - 1));
                }
                String call = "game(" + n + ", " + set + ", " + last + ")";
                compare(call, real.game(n, set, last), model.game(n, set, last));
            }
        }
    }

    private static void trySides() {
        int what = random.nextInt(8) == 0 ? small(3) : random.nextInt(2);
        switch (random.nextInt(6)) {
            case 0: {
                int v = random.nextBoolean() ? small(41) : random.nextInt(12);
                int i = small(7);
                String call = "order(" + what + ", " + v + ", " + i + ")";
                compare(call, real.order(what, v, i), model.order(what, v, i));
                break;
            }
            case 1: compare("even(" + what + ")", real.even(what), model.even(what)); break;
            case 2: {
                int p = speakerOf(0);
                int q = speakerOf(1);
                compare("silence(" + p + ", " + q + ")", real.silence(p, q), model.silence(p, q));
                break;
            }
            case 3: compare("pick(" + what + ")", real.pick(what), model.pick(what)); break;
            case 4: {
                int set = random.nextInt(10) == 0 ? small(1100) : random.nextInt(1 << model.told(4));
                compare("coughs(" + set + ")", real.coughs(set), model.coughs(set));
                break;
            }
            default: compare("keepBack(" + what + ")", real.keepBack(what), model.keepBack(what));
        }
    }

    private static void note() {
        switch (random.nextInt(12)) {
            case 0: case 1: case 2: {
                int d = random.nextInt(10) == 0 ? small(200) - 100 : random.nextInt(61) - 30;
                compare("mark(" + d + ")", real.mark(d), model.mark(d));
                break;
            }
            case 3: case 4: case 5: case 6: {
                int k = small(9);
                int i = random.nextInt(3) == 0 ? -1 : small(26);
                compare("spoke(" + k + ", " + i + ")", real.spoke(k, i), model.spoke(k, i));
                break;
            }
            case 7: case 8: {
                int rounds = random.nextInt(10) == 0 ? small(1001) : model.told(7) + random.nextInt(3);
                int rope = random.nextInt(10) == 0 ? small(600) : model.told(6) + random.nextInt(2);
                compare("write(" + rounds + ", " + rope + ")", real.write(rounds, rope), model.write(rounds, rope));
                break;
            }
            case 9: case 10: compare("judge()", real.judge(), model.judge()); break;
            default:
                if (random.nextInt(8) == 0) {
                    compare("tear()", real.tear(), model.tear());
                } else {
                    int v = random.nextInt(3) == 0 ? small(5) : random.nextInt() & Integer.MAX_VALUE;
                    compare("seed(" + v + ")", real.seed(v), model.seed(v));
                }
        }
    }
}
