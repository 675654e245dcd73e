/**
 * Promises 23 to 30 and the second half of section 3 of the document: each sentence that names a
 * bound, with the last that is taken and the first that is refused.
 */
public final class MarksBoundsTest {
    private static final int NONE = RopeWords.NONE;
    private static final int UNKNOWN = RopeWords.UNKNOWN;
    private static final int OUTSIDE = RopeWords.OUTSIDE;
    private static final int NOT = RopeWords.NOT;
    private static final int FULL = RopeWords.FULL;
    private static final int[] FAR = {Integer.MIN_VALUE, Integer.MAX_VALUE};

    public static void main(String[] args) {
        promise23Bounds();
        promise23Full();
        promise24WhichMark();
        promise24Places();
        promise24Lengths();
        promise24BreathAsTold();
        promise24Pulls();
        promise24Farthest();
        promise24Pairs();
        promise25Bounds();
        promise25Full();
        promise26Tear();
        promise27JustAsManyRounds();
        promise27RopeOtherwise();
        promise27FirstEntry();
        promise27LastEntry();
        promise28Bounds();
        promise29Images();
        promise29BecomesWhatIsSo();
        promise29NothingToUndo();
        promise30Images();
        promise30NotKept();
        promise30WhatItTakes();
        promise30WhatStays();
        promise30NothingToUndo();
        Check.end();
    }

    private static RopeWords marked(int n) {
        RopeWords x = Check.market();
        for (int i = 0; i < n; i++) {
            x.mark(i - 3);
        }
        return x;
    }

    /** "THE ROPE went by d (-99 .. 99 ..)"; "how many. OUTSIDE" */
    private static void promise23Bounds() {
        for (int d : new int[] {-100, 100, -101, 101, FAR[0], FAR[1]}) {
            Check.refused("23: mark(" + d + ")", OUTSIDE, Check::busy, x -> x.mark(d));
        }
        RopeWords x = new RopeWords();
        int[] taken = {-99, 99, -98, 98, 0, -1, 1};
        for (int i = 0; i < taken.length; i++) {
            Check.due("23: mark(" + taken[i] + ")", x.mark(taken[i]), i + 1);
            Check.due("23: told(9)", x.told(9), i + 1);
        }
    }

    /** "MARKS (8 at most)"; "FULL (8)" */
    private static void promise23Full() {
        Check.due("23: the seventh", marked(6).mark(5), 7);
        Check.due("23: the eighth", marked(7).mark(5), 8);
        Check.refused("23: the ninth", FULL, () -> marked(8), x -> x.mark(5));
        Check.refused("23: outside goes ahead of full", OUTSIDE, () -> marked(8), x -> x.mark(100));
        Check.refused("23: outside goes ahead of full", OUTSIDE, () -> marked(8), x -> x.mark(-100));
        RopeWords x = marked(8);
        x.tear();
        Check.due("23: there is room again", x.mark(5), 1);
    }

    /** "SPOKE by the k-th MARK"; "NONE: .. no such MARK" */
    private static void promise24WhichMark() {
        Check.due("24: no marks", new RopeWords().spoke(0, NONE), NONE);
        Check.due("24: no marks, the first", Check.market().spoke(0, 0), NONE);
        RopeWords x = marked(8);
        for (int k = 0; k < 8; k++) {
            Check.holds("24: the " + k + "th of eight", x.spoke(k, NONE) >= 0);
        }
        for (int k : new int[] {8, 9, -1, -2, FAR[0], FAR[1]}) {
            Check.due("24: spoke(" + k + ", NONE)", x.spoke(k, NONE), NONE);
            Check.due("24: spoke(" + k + ", 0)", x.spoke(k, 0), NONE);
        }
        RopeWords one = marked(1);
        Check.holds("24: the only one", one.spoke(0, NONE) >= 0);
        Check.due("24: no second", one.spoke(1, NONE), NONE);
    }

    /** "i = NONE how many, else the i-th; NONE: not so many" */
    private static void promise24Places() {
        RopeWords x = Check.feast("g1 0;s1;p1 1 0 0;p0 1 0 0;p1 1 0 0;p0 1 0 0;p1 1 0 0;");
        x.mark(0);
        int[] due = {10, 12, 14, 30, 32, 34};
        for (int i = 0; i < due.length; i++) {
            Check.due("24: the " + i + "th, rising", x.spoke(0, i), due[i]);
        }
        Check.due("24: how many", x.spoke(0, NONE), 6);
        for (int i : new int[] {6, 7, 25, -2, -3, FAR[0], FAR[1]}) {
            Check.due("24: spoke(0, " + i + ")", x.spoke(0, i), NONE);
        }
        RopeWords none = Check.feast("g1 0;s1;p1 1 0 0;");
        none.mark(0);
        Check.due("24: nobody of side 0", none.spoke(0, NONE), 0);
        Check.due("24: nobody is first", none.spoke(0, 0), NONE);
        RopeWords most = Check.feast("g1 0;s1;" + "p0 1 0 0;".repeat(5) + "p1 1 0 0;".repeat(5));
        most.mark(0);
        Check.due("24: five by five", most.spoke(0, NONE), 25);
        Check.due("24: the last of them", most.spoke(0, 24), 49);
        Check.due("24: none behind it", most.spoke(0, 25), NONE);
    }

    /** How many pairs can have moved the rope by d. */
    private static void dueSpoke(String text, int d, int due) {
        RopeWords x = Check.feast(text);
        x.mark(d);
        Check.due("24: by " + d + " of " + text, x.spoke(0, NONE), due);
    }

    /** "for whom there are LENGTHS of GOOD WORDS (or 0) that do it" */
    private static void promise24Lengths() {
        String text = "g1 0;s3;s5;p0 9 0 0;p1 9 0 0;";
        int[] can = {1, 0, 1, 1, 0, 1, 0};
        for (int d = 0; d < can.length; d++) {
            dueSpoke(text, d, can[d]);
            dueSpoke(text, -d, can[d]);
        }
        dueSpoke("g2 0;s3;s5;n0 0;n0 1;n1 0;p0 40 0 0;p1 40 0 0;", 7, 1);
        dueSpoke("g2 0;s3;s5;n0 0;n0 1;n1 0;p0 40 0 0;p1 40 0 0;", 10, 1);
        dueSpoke("g2 0;s3;s5;n0 0;n0 1;n1 0;n1 1;p0 40 0 0;p1 40 0 0;", 10, 0);
        dueSpoke("g2 0;s3;s5;n0 0;n0 1;n1 0;n1 1;p0 40 0 0;p1 40 0 0;", 5, 1);
        dueSpoke("g1 0;s1;p0 1 0 0;p1 1 0 0;", 1, 1);
        dueSpoke("g1 0;s1;p0 1 0 0;p1 1 0 0;", -1, 1);
        dueSpoke("g1 0;s1;p0 1 0 0;p1 1 0 0;", 2, 0);
        dueSpoke("g1 0;s2;s3;p0 2 0 0;p1 3 0 0;", 1, 1);
        dueSpoke("g1 0;s2;s3;p0 1 0 0;p1 3 0 0;", 1, 0);
        dueSpoke("g1 0;s2;s3;p0 3 0 0;p1 2 0 0;", -1, 1);
        dueSpoke("g1 0;s2;s3;p0 3 0 0;p1 1 0 0;", -1, 0);
        dueSpoke("g1 0;p0 40 0 0;p1 40 0 0;", 0, 1);
        dueSpoke("g1 0;p0 40 0 0;p1 40 0 0;", 1, 0);
    }

    /** "(.. BREATH as told at first)" */
    private static void promise24BreathAsTold() {
        dueSpoke("g1 0;s5;p0 4 0 0;p1 9 0 0;", -5, 0);
        dueSpoke("g1 0;s5;p0 5 0 0;p1 9 0 0;", -5, 1);
        dueSpoke("g1 0;s5;p0 9 0 0;p1 4 0 0;", 5, 0);
        dueSpoke("g1 0;s5;p0 9 0 0;p1 5 0 0;", 5, 1);
        dueSpoke("g1 0;s3;s5;p0 2 0 0;p1 9 0 0;", 2, 0);
        dueSpoke("g1 0;s3;s5;p0 3 0 0;p1 9 0 0;", 2, 1);
        RopeWords x = Check.feast("g1 0;s5;p0 5 0 0;p1 5 0 0;");
        x.mark(-5);
        x.round(0, 10, 1, NONE);
        Check.due("24: he has no breath now, and the word was said", x.spoke(0, NONE), 1);
    }

    private static void promise24Pulls() {
        for (int mud = 0; mud <= 9; mud++) {
            String text = "g1 " + mud + ";s8;p0 8 0 0;p1 8 0 0;";
            int far = Math.max(0, 8 - mud);
            dueSpoke(text, far, 1);
            dueSpoke(text, -far, 1);
            dueSpoke(text, far + 1, 0);
            dueSpoke(text, -far - 1, 0);
            dueSpoke(text, 0, 1);
        }
        // each pulls by his own weight: 8 * 11 / 10 is 8, 8 * 15 / 10 is 12
        dueSpoke("g1 0;s8;p0 8 10 0;p1 8 50 0;", -8, 1);
        dueSpoke("g1 0;s8;p0 8 10 0;p1 8 50 0;", 8, 0);
        dueSpoke("g1 0;s8;p0 8 10 0;p1 8 50 0;", 12, 1);
        dueSpoke("g1 0;s8;p0 8 10 0;p1 8 50 0;", -12, 0);
    }

    /** 40 times 19 / 10 is the most that can be pulled; -99 and 99 are taken, though nobody can. */
    private static void promise24Farthest() {
        String text = "g4 0;s9;e4;e5;p0 40 99 0;p1 40 99 0;";
        int[][] due = {{76, 1}, {77, 0}, {78, 0}, {98, 0}, {99, 0}};
        for (int[] row : due) {
            dueSpoke(text, row[0], row[1]);
            dueSpoke(text, -row[0], row[1]);
        }
    }

    /** "pairs of SPEAKERS (of SIDE 0, of SIDE 1 ..)"; "10 times the one and the other; rising" */
    private static void promise24Pairs() {
        RopeWords x = Check.feast("g1 0;s4;s7;p1 4 0 0;p0 4 0 0;p1 7 0 0;p0 7 0 0;");
        x.mark(7);
        x.mark(-7);
        x.mark(3);
        x.mark(-3);
        int[][] due = {{12, 32, NONE}, {30, 32, NONE}, {12, 32, NONE}, {30, 32, NONE}};
        for (int k = 0; k < due.length; k++) {
            for (int i = 0; i < due[k].length; i++) {
                Check.due("24: spoke(" + k + ", " + i + ")", x.spoke(k, i), due[k][i]);
            }
        }
    }

    private static RopeWords written(int n) {
        RopeWords x = Check.market();
        for (int i = 0; i < n; i++) {
            x.write(i, i);
        }
        return x;
    }

    /** "ROUNDS 0 .. 999, THE ROPE -500 .. 500"; "OUTSIDE" */
    private static void promise25Bounds() {
        for (int rounds : new int[] {-1, 1000, -2, 1001, FAR[0], FAR[1]}) {
            Check.refused("25: write(" + rounds + ", 0)", OUTSIDE, Check::busy, x -> x.write(rounds, 0));
        }
        for (int rope : new int[] {-501, 501, -502, 502, FAR[0], FAR[1]}) {
            Check.refused("25: write(0, " + rope + ")", OUTSIDE, Check::busy, x -> x.write(0, rope));
        }
        RopeWords x = new RopeWords();
        int[][] taken = {{0, 0}, {999, 0}, {0, -500}, {0, 500}, {998, -499}, {1, 499}, {999, 500}};
        for (int i = 0; i < taken.length; i++) {
            Check.due("25: write(" + taken[i][0] + ", " + taken[i][1] + ")", x.write(taken[i][0], taken[i][1]), i + 1);
            Check.due("25: told(10)", x.told(10), i + 1);
        }
    }

    /** "THE BOOK (15 at most)"; "FULL (15)" */
    private static void promise25Full() {
        Check.due("25: the 14th", written(13).write(0, 0), 14);
        Check.due("25: the 15th", written(14).write(0, 0), 15);
        Check.refused("25: the 16th", FULL, () -> written(15), x -> x.write(0, 1));
        Check.refused("25: outside goes ahead of full", OUTSIDE, () -> written(15), x -> x.write(-1, 0));
        Check.refused("25: outside goes ahead of full", OUTSIDE, () -> written(15), x -> x.write(0, 501));
        RopeWords x = written(15);
        x.tear();
        Check.due("25: there is room again", x.write(0, 0), 1);
    }

    /** "No MARKS, THE BOOK is empty: how many both had." */
    private static void promise26Tear() {
        Check.due("26: nothing", new RopeWords().tear(), 0);
        Check.unchanged("26: nothing", Check::market, RopeWords::tear);
        Check.due("26: one mark", marked(1).tear(), 1);
        Check.due("26: one entry", written(1).tear(), 1);
        RopeWords x = written(15);
        for (int i = 0; i < 8; i++) {
            x.mark(i);
        }
        Check.due("26: the most of both", x.tear(), 23);
        Check.due("26: no marks", x.told(9), 0);
        Check.due("26: no entries", x.told(10), 0);
        Check.due("26: no mark 0", x.spoke(0, NONE), NONE);
        Check.due("26: nothing is wrong", x.judge(), NONE);
        Check.due("26: nothing more", x.tear(), 0);
        RopeWords busy = Check.busy();
        Check.due("26: of the busy one", busy.tear(), 5);
        Check.due("26: rounds stay", busy.told(7), 6);
        Check.due("26: what can be undone stays", busy.told(11), 3);
        Check.due("26: images stay", busy.goBack(1), 1);
    }

    private static RopeWords after(int rounds) {
        RopeWords x = Check.market();
        for (int i = 0; i < rounds; i++) {
            x.round(0, NONE, 1, NONE);
        }
        return x;
    }

    /** "the first entry for just as many ROUNDS as there were by now" */
    private static void promise27JustAsManyRounds() {
        for (int entry = 0; entry <= 4; entry++) {
            RopeWords x = after(2);
            x.write(entry, 7);
            Check.due("27: an entry for " + entry + " behind 2", x.judge(), entry == 2 ? 0 : NONE);
        }
        RopeWords start = new RopeWords();
        start.write(0, 1);
        Check.due("27: without a feast", start.judge(), 0);
        RopeWords far = Check.feast("g1 0;p0 1 0 0;p1 1 0 0;");
        for (int i = 0; i < 11; i++) {
            far.drift(i < 10 ? 99 : 8);
        }
        far.write(999, 1);
        Check.due("27: at 998", far.judge(), NONE);
        far.round(0, NONE, 1, NONE);
        Check.due("27: at 999", far.judge(), 0);
        far.round(0, NONE, 1, NONE);
        Check.due("27: at 1000", far.judge(), NONE);
    }

    /** "where THE ROPE is otherwise now; NONE" */
    private static void promise27RopeOtherwise() {
        for (int rope = -7; rope <= 7; rope++) {
            RopeWords x = Check.market();
            x.round(0, 110, 1, 30);
            x.write(1, rope);
            Check.due("27: the rope at " + rope + ", not -5", x.judge(), rope == -5 ? NONE : 0);
        }
    }

    private static void promise27FirstEntry() {
        RopeWords x = after(1);
        Check.due("27: no book", x.judge(), NONE);
        x.write(0, 9);
        x.write(1, 0);
        x.write(2, 9);
        Check.due("27: none is wrong", x.judge(), NONE);
        x.write(1, 1);
        x.write(1, 2);
        Check.due("27: the first that is wrong", x.judge(), 3);
        x.undo();
        Check.due("27: by the rounds there were by now", x.judge(), 0);
        x.write(0, 0);
        Check.due("27: still the first", x.judge(), 0);
    }

    private static void promise27LastEntry() {
        RopeWords x = Check.market();
        for (int i = 0; i < 14; i++) {
            x.write(0, 0);
        }
        Check.due("27: 14 are right", x.judge(), NONE);
        x.write(0, 1);
        Check.due("27: the 15th is wrong", x.judge(), 14);
    }

    /** "THE SEED becomes v (0 .. 2147483647): what it was. OUTSIDE." */
    private static void promise28Bounds() {
        for (int v : new int[] {-1, -2, FAR[0], FAR[0] + 1}) {
            Check.refused("28: seed(" + v + ")", OUTSIDE, Check::busy, x -> x.seed(v));
        }
        RopeWords x = new RopeWords();
        int[] taken = {1, 2147483647, 0, 2147483646, 1073741824};
        int was = 0;
        for (int v : taken) {
            Check.due("28: seed(" + v + ")", x.seed(v), was);
            was = v;
        }
        Check.due("28: seed(-1)", x.seed(-1), OUTSIDE);
        Check.due("28: it stays", x.seed(0), was);
    }

    /** "IMAGE i becomes what is so ..: 1. UNKNOWN."; "IMAGES 0, 1" */
    private static void promise29Images() {
        for (int i : new int[] {-1, 2, -2, 3, FAR[0], FAR[1]}) {
            Check.refused("29: keep(" + i + ")", UNKNOWN, Check::busy, x -> x.keep(i));
        }
        Check.due("29: keep(0)", Check.busy().keep(0), 1);
        Check.due("29: keep(1)", Check.busy().keep(1), 1);
        Check.due("29: without a feast", new RopeWords().keep(0), 1);
        RopeWords x = Check.market();
        x.keep(1);
        Check.due("29: 1 alone is kept", x.goBack(0), NOT);
        Check.due("29: 1 is kept", x.goBack(1), 1);
        RopeWords y = Check.market();
        y.keep(0);
        Check.due("29: 0 alone is kept", y.goBack(1), NOT);
        Check.due("29: 0 is kept", y.goBack(0), 1);
    }

    /** What a new image takes the place of is gone; the other one stays. */
    private static void promise29BecomesWhatIsSo() {
        RopeWords x = Check.market();
        x.keep(0);
        x.round(0, 110, 1, NONE);
        x.keep(1);
        x.seed(99);
        x.round(2, 20, 1, NONE);
        x.keep(0);
        x.seed(3);
        x.round(2, NONE, 1, 10);
        x.goBack(0);
        Check.due("29: the later image 0, rounds", x.told(7), 2);
        Check.due("29: its words", x.said(1), 20);
        Check.due("29: no third", x.said(2), NONE);
        Check.due("29: its seed", x.seed(0), 99);
        x.goBack(1);
        Check.due("29: image 1, rounds", x.told(7), 1);
        Check.due("29: its words", x.said(1), NONE);
        Check.due("29: its seed", x.seed(0), 0);
    }

    /** "(nothing can be undone then)" */
    private static void promise29NothingToUndo() {
        RopeWords x = Check.market();
        x.round(0, NONE, 1, NONE);
        x.round(0, NONE, 1, NONE);
        Check.due("29: two can be undone", x.told(11), 2);
        x.keep(0);
        Check.due("29: none can be", x.told(11), 0);
        Check.due("29: undo()", x.undo(), NOT);
        Check.due("29: rounds are as they were", x.told(7), 2);
        x.round(0, NONE, 1, NONE);
        Check.due("29: what comes later can be", x.undo(), 0);
        Check.due("29: no more", x.undo(), NOT);
        Check.due("29: rounds", x.told(7), 2);
    }

    /** "UNKNOWN, NOT: it was not kept." */
    private static void promise30Images() {
        for (int i : new int[] {-1, 2, -2, 3, FAR[0], FAR[1]}) {
            Check.refused("30: goBack(" + i + ")", UNKNOWN, Check::busy, x -> x.goBack(i));
            Check.due("30: unknown goes ahead of not", new RopeWords().goBack(i), UNKNOWN);
        }
        Check.due("30: goBack(0)", Check.busy().goBack(0), 1);
        Check.due("30: goBack(1)", Check.busy().goBack(1), 1);
    }

    private static RopeWords notKept() {
        RopeWords x = Check.market();
        x.seed(8);
        x.round(0, 110, 1, 30);
        x.drift(3);
        x.mark(1);
        return x;
    }

    private static RopeWords oneKept(int i) {
        RopeWords x = notKept();
        x.keep(i);
        x.round(0, NONE, 1, NONE);
        return x;
    }

    private static void promise30NotKept() {
        Check.refused("30: of a new object", NOT, RopeWords::new, x -> x.goBack(0));
        Check.refused("30: 0 was not kept", NOT, MarksBoundsTest::notKept, x -> x.goBack(0));
        Check.refused("30: 1 was not kept", NOT, MarksBoundsTest::notKept, x -> x.goBack(1));
        Check.refused("30: 1 was kept, not 0", NOT, () -> oneKept(1), x -> x.goBack(0));
        Check.refused("30: 0 was kept, not 1", NOT, () -> oneKept(0), x -> x.goBack(1));
        RopeWords x = oneKept(0);
        x.keep(1);
        x.feast();
        Check.due("30: gone with the feast", x.goBack(0), NOT);
        Check.due("30: gone with the feast", x.goBack(1), NOT);
        RopeWords y = oneKept(0);
        Check.feed(y, "x");
        y.feast();
        Check.due("30: not with a fault", y.goBack(0), 1);
    }

    /** "IMAGES 0, 1 keep all of section 2, THE SEED." */
    private static void promise30WhatItTakes() {
        RopeWords x = oneKept(0);
        int rope = x.told(6);
        int words = x.told(8);
        int seed = x.seed(0);
        x.seed(seed);
        int[] breath = new int[4];
        x.goBack(0);
        for (int p = 0; p < 4; p++) {
            breath[p] = x.speaker(p, 2);
        }
        x.seed(1);
        x.drift(50);
        Check.due("30: goBack(0)", x.goBack(0), 1);
        Check.due("30: the rope", x.told(6), rope);
        Check.due("30: rounds", x.told(7), 4);
        Check.due("30: words", x.told(8), words);
        Check.due("30: the first word", x.said(0), 110);
        for (int p = 0; p < 4; p++) {
            Check.due("30: breath of " + p, x.speaker(p, 2), breath[p]);
        }
        Check.due("30: the seed", x.seed(0), seed);
        Check.due("30: the image is kept yet", x.goBack(0), 1);
        Check.due("30: with its seed", x.seed(0), seed);
    }

    /** Marks, the book and the text are not of section 2. */
    private static void promise30WhatStays() {
        RopeWords x = Check.busy();
        x.goBack(0);
        Check.due("30: marks", x.told(9), 2);
        Check.due("30: entries", x.told(10), 3);
        Check.due("30: letters", x.told(5), 20);
        Check.due("30: the other image", x.goBack(1), 1);
        Check.due("30: its rounds", x.told(7), 3);
    }

    /** "(nothing can be undone then)" */
    private static void promise30NothingToUndo() {
        RopeWords x = oneKept(1);
        Check.due("30: one can be undone", x.told(11), 1);
        x.goBack(1);
        Check.due("30: none can be", x.told(11), 0);
        Check.due("30: undo()", x.undo(), NOT);
        Check.due("30: rounds", x.told(7), 4);
        x.round(0, NONE, 1, NONE);
        Check.due("30: what comes later can be", x.undo(), 0);
        Check.due("30: rounds", x.told(7), 4);
    }
}
