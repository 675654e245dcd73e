/** Promises 11 to 13: what is done. */
public final class RoundsTest {
    private static final int NONE = RopeWords.NONE;
    private static final int UNKNOWN = RopeWords.UNKNOWN;
    private static final int NOT = RopeWords.NOT;

    public static void main(String[] args) {
        promise11Pulls();
        promise11Rests();
        promise11Refusals();
        promise11RopeEnds();
        promise11WordsForgotten();
        promise12Refusals();
        promise12ByHand();
        promise12SameWord();
        promise12Coughs();
        promise13Undo();
        promise13Twenty();
        Check.end();
    }

    private static void promise11Pulls() {
        RopeWords x = Check.market();
        Check.due("11: 6 against 2, weight 50, mud 1", x.round(0, 110, 1, 30), -5);
        Check.due("11: both silent", x.round(0, NONE, 1, NONE), 0);
        Check.due("11: 0 against 3, weight 90, mud 1", x.round(2, NONE, 3, 10), 4);
        Check.due("11: alike", x.round(2, 20, 1, 310), 0);
        Check.due("11: the rope", x.told(6), -1);
        Check.due("11: rounds", x.told(7), 4);
        Check.due("11: words", x.told(8), 5);
        RopeWords mud = Check.feast("g1 9;s9;s1;p0 40 0 0;p1 40 0 0;");
        Check.due("11: mud takes all of it", mud.round(0, 20, 1, 10), 0);
        RopeWords cut = Check.feast("g1 0;s1;s7;p0 40 19 0;p1 40 99 0;");
        Check.due("11: 7 times 11 / 10 is cut", cut.round(0, 20, 1, NONE), -7);
        Check.due("11: 1 times 19 / 10 is cut", cut.round(0, NONE, 1, 10), 1);
    }

    private static void promise11Rests() {
        RopeWords x = Check.market();
        x.round(0, 110, 1, 30);
        Check.due("11: breath of 0", x.speaker(0, 2), 3);
        Check.due("11: breath of 1", x.speaker(1, 2), 10);
        Check.due("11: 2 has no more than told", x.speaker(2, 2), 20);
        x.round(0, NONE, 3, 10);
        Check.due("11: the silent one rests", x.speaker(0, 2), 4);
        Check.due("11: who was not asked rests", x.speaker(1, 2), 11);
        Check.due("11: who speaks does not", x.speaker(3, 2), 3);
        x.round(2, NONE, 3, NONE);
        Check.due("11: 0 rests", x.speaker(0, 2), 5);
        Check.due("11: 1 rests to what was told", x.speaker(1, 2), 12);
        Check.due("11: just his breath", x.round(0, 20, 3, NONE), -6);
        Check.due("11: no breath left", x.speaker(0, 2), 0);
    }

    private static void promise11Refusals() {
        RopeWords x = Check.market();
        Check.due("11: p of side 1", x.round(1, 10, 3, 20), UNKNOWN);
        Check.due("11: q of side 0", x.round(0, 10, 2, 20), UNKNOWN);
        Check.due("11: no p", x.round(-1, 10, 1, 20), UNKNOWN);
        Check.due("11: no q", x.round(0, 10, 4, 20), UNKNOWN);
        Check.due("11: unknown goes ahead of not", x.round(0, 0, 0, 0), UNKNOWN);
        Check.due("11: v is not good", x.round(0, 220, 1, 10), NOT);
        Check.due("11: w is not good", x.round(0, 10, 1, 0), NOT);
        Check.due("11: -2 is no silence", x.round(0, -2, 1, 10), NOT);
        Check.due("11: both say the same", x.round(0, 10, 1, 10), NOT);
        RopeWords y = Check.market();
        Check.due("11: longer than breath of p", y.round(0, 212, 1, 10), NOT);
        Check.due("11: longer than breath of q", y.round(0, 10, 3, 12), NOT);
        Check.due("11: nothing changed", y.told(7) + y.told(8) + y.told(11), 0);
        Check.due("11: it is said", y.round(0, 10, 1, 30), 0);
        Check.due("11: v was said", y.round(2, 30, 1, NONE), NOT);
        Check.due("11: w was said", y.round(2, NONE, 1, 10), NOT);
        Check.due("11: breath is as it was", y.speaker(0, 2), 6);
    }

    private static void promise11RopeEnds() {
        String speakers = "p0 40 0 0;p1 40 99 0;p1 40 99 0;p1 40 99 0;p1 40 99 0;p1 40 99 0;p1 40 99 0;p1 40 99 0;";
        RopeWords x = Check.feast("g4 0;s9;s9;" + speakers);
        int[] words = {11110, 11120, 11210, 11220, 12110, 12120, 12210};
        for (int i = 0; i < words.length; i++) {
            Check.due("11: a long pull", x.round(0, NONE, i + 1, words[i]), 68);
        }
        Check.due("11: the rope is near", x.told(6), 476);
        Check.due("11: five go on", x.round(0, NONE, 1, 10), 17);
        Check.due("11: it ends at 500", x.round(0, NONE, 2, 20), 7);
        Check.due("11: the rope is at its end", x.told(6), 500);
        Check.due("11: no farther", x.round(0, NONE, 3, NONE), 0);
        Check.due("11: back from its end", x.round(0, 22220, 4, NONE), -36);
    }

    private static void promise11WordsForgotten() {
        RopeWords x = Check.feast("g2 0;s1;s1;s1;s1;s1;s1;e1;p0 40 0 0;p1 40 0 0;p0 40 0 0;p1 40 0 0;");
        int said = 0;
        for (int a = 1; a <= 6 && said < 39; a++) {
            for (int b = 1; b <= 6 && said < 39; b++) {
                x.round(said % 4 < 2 ? 0 : 2, 100 * a + 10 * b, 1, NONE);
                said++;
            }
        }
        x.round(0, 10, 1, 20);
        x.round(2, NONE, 3, 30);
        Check.due("11: 36 of two stems, 10, 20, 30", x.told(8), 39);
        Check.due("11: the oldest is kept yet", x.said(0), 110);
        Check.due("11: it may not come again", x.round(2, 110, 3, NONE), NOT);
        x.round(2, 40, 3, 50);
        Check.due("11: 40 are kept", x.told(8), 40);
        Check.due("11: the oldest is forgotten", x.said(0), 120);
        Check.due("11: the newest", x.said(39), 50);
        Check.due("11: not so many", x.said(40), NONE);
        Check.due("11: the forgotten one comes again", x.round(2, 110, 3, NONE), -2);
        Check.due("11: the next is forgotten", x.said(0), 130);
    }

    private static void promise12Refusals() {
        RopeWords x = Check.feast("g1 0;s1;p0 5 5 5;");
        Check.due("12: drift(0)", x.drift(0), RopeWords.OUTSIDE);
        Check.due("12: drift(100)", x.drift(100), RopeWords.OUTSIDE);
        Check.due("12: side 1 has none", x.drift(1), NOT);
        Check.due("12: side 0 has none", Check.feast("g1 0;s1;p1 5 5 5;").drift(99), NOT);
        Check.due("12: no draw was made", x.seed(0), 0);
        RopeWords mute = Check.feast("g1 0;p0 5 5 0;p1 5 5 0;");
        Check.due("12: without stems", mute.drift(99), 1000);
        Check.due("12: rounds", mute.told(7), 99);
    }

    /** The seed goes on by it times 1103515245 and 12345, left over by 2 to the 31. */
    private static long nextSeed(long seed) {
        return (seed * 1103515245L + 12345L) % 2147483648L;
    }

    private static void promise12ByHand() {
        RopeWords x = Check.feast("g1 0;s3;s5;p0 3 0 0;p1 5 0 0;");
        Check.due("12: 3 against 5", x.drift(1), 1002);
        Check.due("12: said by side 0 first", x.said(0), 10);
        Check.due("12: said by side 1", x.said(1), 20);
        long seed = 0;
        for (int i = 0; i < 4; i++) {
            seed = nextSeed(seed);
        }
        Check.due("12: four draws a round", x.seed(2147483647), seed);
        Check.due("12: out of breath, all silent", x.drift(2), 1002);
        Check.due("12: they rest", x.speaker(0, 2), 2);
        seed = 2147483647L;
        for (int i = 0; i < 8; i++) {
            seed = nextSeed(seed);
        }
        Check.due("12: from the greatest seed", x.seed(0), seed);
        Check.due("12: one can be undone for each", x.told(11), 2);
    }

    private static void promise12SameWord() {
        RopeWords x = Check.feast("g1 0;s3;p0 9 0 0;p1 9 0 0;");
        Check.due("12: side 1 may not say it in this round", x.drift(1), 997);
        Check.due("12: one word", x.told(8), 1);
        Check.due("12: nor later", x.drift(9), 997);
        Check.due("12: one word", x.told(8), 1);
    }

    private static void promise12Coughs() {
        RopeWords x = Check.feast("g1 0;s3;s5;p0 9 0 100;p1 9 0 0;");
        Check.due("12: he always coughs", x.drift(1), 1005);
        long seed = 0;
        int draw = 0;
        for (int i = 0; i < 2; i++) {
            seed = nextSeed(seed);
            draw = (int) (seed / 65536 % 100);
        }
        RopeWords below = Check.feast("g1 0;s3;s5;p0 9 0 " + (draw + 1) + ";p1 9 0 100;");
        Check.due("12: the draw is below C", below.drift(1), 1000);
        RopeWords alike = Check.feast("g1 0;s3;s5;p0 9 0 " + draw + ";p1 9 0 100;");
        Check.due("12: the draw is C", alike.drift(1), 995);
    }

    private static void promise13Undo() {
        RopeWords x = Check.market();
        Check.due("13: none", x.undo(), NOT);
        x.seed(4);
        x.round(0, 110, 1, 30);
        x.drift(5);
        int rope = x.told(6);
        x.round(0, NONE, 1, NONE);
        x.round(0, 110, 1, NONE);
        Check.due("13: three can be undone", x.told(11), 3);
        Check.due("13: the silent round", x.undo(), 2);
        Check.due("13: the rope", x.told(6), rope);
        int seed = x.seed(9);
        x.seed(seed);
        Check.due("13: all of the drift", x.undo(), 1);
        Check.due("13: rounds", x.told(7), 1);
        Check.due("13: the rope", x.told(6), -5);
        Check.due("13: words", x.told(8), 2);
        Check.due("13: breath", x.speaker(0, 2), 3);
        Check.due("13: the seed stays", x.seed(1), seed);
        Check.due("13: the round", x.undo(), 0);
        Check.due("13: breath", x.speaker(0, 2), 9);
        Check.due("13: the word may come again", x.round(0, 110, 1, 30), -5);
    }

    private static void promise13Twenty() {
        RopeWords x = Check.market();
        for (int i = 1; i <= 25; i++) {
            x.round(0, NONE, 1, NONE);
            Check.due("13: can be undone", x.told(11), Math.min(i, 20));
        }
        for (int i = 19; i >= 0; i--) {
            Check.due("13: undo()", x.undo(), i);
            Check.due("13: rounds", x.told(7), 5 + i);
        }
        Check.due("13: the oldest are lost", x.undo(), NOT);
        Check.due("13: rounds", x.told(7), 5);
    }
}
