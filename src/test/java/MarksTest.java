/** Promises 23 to 30: marks, books, images. */
public final class MarksTest {
    private static final int NONE = RopeWords.NONE;
    private static final int UNKNOWN = RopeWords.UNKNOWN;
    private static final int OUTSIDE = RopeWords.OUTSIDE;
    private static final int NOT = RopeWords.NOT;
    private static final int FULL = RopeWords.FULL;

    public static void main(String[] args) {
        promise23Mark();
        promise24Spoke();
        promise25Write();
        promise26Tear();
        promise27Judge();
        promise28Seed();
        promise29Keep();
        promise30GoBack();
        Check.end();
    }

    private static void promise23Mark() {
        RopeWords x = new RopeWords();
        Check.due("23: mark(100)", x.mark(100), OUTSIDE);
        Check.due("23: mark(-100)", x.mark(-100), OUTSIDE);
        for (int i = 1; i <= 8; i++) {
            Check.due("23: mark", x.mark(i % 2 == 0 ? 99 : -99), i);
        }
        Check.due("23: a ninth", x.mark(0), FULL);
        Check.due("23: outside goes ahead of full", x.mark(100), OUTSIDE);
        Check.due("23: told(9)", x.told(9), 8);
    }

    private static void promise24Spoke() {
        // lengths 3 and 5; speaker 0 pulls as much as he is longer, speaker 2 half more
        RopeWords x = Check.feast("g1 0;s3;s5;p0 5 0 0;p1 4 0 0;p0 3 50 0;p1 9 90 0;");
        int[] marks = {0, -2, -4, 9, 3, -5, 1};
        for (int d : marks) {
            x.mark(d);
        }
        Check.due("24: nobody pulled: all pairs", x.spoke(0, NONE), 4);
        int[] pairs = {1, 3, 21, 23, NONE};
        for (int i = 0; i < pairs.length; i++) {
            Check.due("24: spoke(0, " + i + ")", x.spoke(0, i), pairs[i]);
        }
        Check.due("24: 5 against 3", x.spoke(1, NONE), 2);
        Check.due("24: by 0 against 1", x.spoke(1, 0), 1);
        Check.due("24: by 0 against 3", x.spoke(1, 1), 3);
        Check.due("24: 3 times 15 / 10", x.spoke(2, NONE), 2);
        Check.due("24: by 2 against 1", x.spoke(2, 0), 21);
        Check.due("24: 5 times 19 / 10", x.spoke(3, NONE), 2);
        Check.due("24: by 3 against 0", x.spoke(3, 0), 3);
        Check.due("24: 2 or 3 of theirs", x.spoke(4, NONE), 4);
        Check.due("24: the last by 3", x.spoke(4, 3), 23);
        Check.due("24: 5 against silence", x.spoke(5, NONE), 2);
        Check.due("24: nobody does it", x.spoke(6, NONE), 0);
        Check.due("24: nobody is first", x.spoke(6, 0), NONE);
        Check.due("24: no such mark", x.spoke(7, NONE), NONE);
        Check.due("24: no mark -1", x.spoke(-1, NONE), NONE);
        Check.due("24: -2", x.spoke(0, -2), NONE);
        x.round(0, 20, 1, NONE);
        Check.due("24: breath as told at first", x.spoke(5, NONE), 2);
    }

    private static void promise25Write() {
        RopeWords x = new RopeWords();
        int[][] wrong = {{-1, 0}, {1000, 0}, {0, -501}, {0, 501}};
        for (int[] row : wrong) {
            Check.due("25: write(" + row[0] + ", " + row[1] + ")", x.write(row[0], row[1]), OUTSIDE);
        }
        for (int i = 1; i <= 15; i++) {
            Check.due("25: write", x.write(i % 2 == 0 ? 0 : 999, i % 2 == 0 ? -500 : 500), i);
        }
        Check.due("25: a sixteenth", x.write(0, 0), FULL);
        Check.due("25: outside goes ahead of full", x.write(0, 501), OUTSIDE);
        Check.due("25: told(10)", x.told(10), 15);
    }

    private static void promise26Tear() {
        RopeWords x = new RopeWords();
        Check.due("26: nothing", x.tear(), 0);
        x.mark(1);
        x.mark(2);
        x.write(0, 1);
        Check.due("26: both", x.tear(), 3);
        Check.due("26: marks", x.told(9), 0);
        Check.due("26: entries", x.told(10), 0);
        Check.due("26: judge()", x.judge(), NONE);
        Check.due("26: mark again", x.mark(1), 1);
        Check.due("26: write again", x.write(1, 1), 1);
    }

    private static void promise27Judge() {
        RopeWords x = Check.market();
        Check.due("27: no book", x.judge(), NONE);
        x.write(0, 0);
        x.write(1, 5);
        x.write(1, -5);
        x.write(1, 6);
        Check.due("27: right by now", x.judge(), NONE);
        x.round(0, 110, 1, 30);
        Check.due("27: the first that is wrong", x.judge(), 1);
        x.undo();
        Check.due("27: right again", x.judge(), NONE);
        x.write(0, 1);
        Check.due("27: the fifth", x.judge(), 4);
    }

    private static void promise28Seed() {
        RopeWords x = new RopeWords();
        Check.due("28: 0 at first", x.seed(2147483647), 0);
        Check.due("28: seed(-1)", x.seed(-1), OUTSIDE);
        Check.due("28: it stays", x.seed(0), 2147483647);
        Check.due("28: seed(least)", x.seed(Integer.MIN_VALUE), OUTSIDE);
        Check.due("28: 0", x.seed(5), 0);
    }

    private static void promise29Keep() {
        RopeWords x = Check.market();
        x.round(0, 110, 1, 30);
        Check.due("29: keep(2)", x.keep(2), UNKNOWN);
        Check.due("29: keep(-1)", x.keep(-1), UNKNOWN);
        Check.due("29: still to undo", x.told(11), 1);
        Check.due("29: keep(1)", x.keep(1), 1);
        Check.due("29: nothing to undo", x.undo(), NOT);
        Check.due("29: keep(1) does not keep 0", x.goBack(0), NOT);
        x.round(2, 20, 1, NONE);
        Check.due("29: refused, so still to undo", x.told(11), 1);
        Check.due("29: keep(1) again", x.keep(1), 1);
        x.round(2, NONE, 1, 10);
        x.goBack(1);
        Check.due("29: the later image", x.told(7), 2);
    }

    private static void promise30GoBack() {
        RopeWords x = Check.market();
        Check.due("30: goBack(2)", x.goBack(2), UNKNOWN);
        Check.due("30: goBack(-1)", x.goBack(-1), UNKNOWN);
        Check.due("30: not kept", x.goBack(1), NOT);
        x.seed(11);
        x.round(0, 110, 1, 30);
        x.keep(0);
        x.mark(4);
        x.seed(12);
        x.drift(30);
        x.keep(1);
        x.round(2, NONE, 1, NONE);
        Check.due("30: goBack(0)", x.goBack(0), 1);
        Check.due("30: nothing to undo", x.told(11), 0);
        Check.due("30: the rope", x.told(6), -5);
        Check.due("30: rounds", x.told(7), 1);
        Check.due("30: words", x.told(8), 2);
        Check.due("30: said", x.said(0), 110);
        Check.due("30: breath", x.speaker(0, 2), 3);
        Check.due("30: marks stay", x.told(9), 1);
        Check.due("30: the seed", x.seed(0), 11);
        Check.due("30: goBack(1)", x.goBack(1), 1);
        Check.due("30: rounds", x.told(7), 31);
        Check.due("30: goBack(0) once more", x.goBack(0), 1);
        Check.due("30: rounds", x.told(7), 1);
        x.round(2, 20, 1, NONE);
        Check.due("30: the image does not change with it", x.goBack(0), 1);
        Check.due("30: rounds", x.told(7), 1);
        Check.due("30: words", x.told(8), 2);
        promise30ImagesKeepTheirWords();
    }

    /** The words of an image are its own, not those that stand there by now. */
    private static void promise30ImagesKeepTheirWords() {
        RopeWords x = Check.feast("g1 0;s1;s1;s1;s1;p0 9 0 0;p1 9 0 0;");
        x.round(0, 10, 1, 20);
        x.keep(0);
        RopeWords y = Check.feast("g1 0;s1;s1;s1;s1;p0 9 0 0;p1 9 0 0;");
        y.keep(0);
        x.round(0, 30, 1, 40);
        Check.feed(x, "g1 0;s1;s1;s1;s1;p0 9 0 0;p1 9 0 0;");
        x.feast();
        x.round(0, 30, 1, 40);
        x.keep(0);
        x.round(0, 10, 1, 20);
        x.keep(1);
        x.goBack(0);
        Check.due("30: the first said", x.said(0), 30);
        Check.due("30: no third said", x.said(2), NONE);
        x.goBack(1);
        Check.due("30: the third said", x.said(2), 10);
        y.goBack(0);
        Check.due("30: nothing said", y.said(0), NONE);
    }
}
