/**
 * Promises 11 to 13 and section 2 of the document: each sentence that names a bound, with the last
 * that is taken and the first that is refused.
 */
public final class RoundsBoundsTest {
    private static final int NONE = RopeWords.NONE;
    private static final int UNKNOWN = RopeWords.UNKNOWN;
    private static final int OUTSIDE = RopeWords.OUTSIDE;
    private static final int NOT = RopeWords.NOT;
    private static final int FULL = RopeWords.FULL;

    public static void main(String[] args) {
        promise11Speakers();
        promise11NotGood();
        promise11WasSaid();
        promise11SameWord();
        promise11Breath();
        promise11BreathIsLess();
        promise11Rest();
        promise11Weight();
        promise11Cut();
        promise11Mud();
        promise11LongerByOne();
        promise11RopeEnd();
        promise11RopeEndKeepsOn();
        promise11FortyWords();
        promise11FortyWordsByTwo();
        promise11RoundsAreCounted();
        promise11Full();
        promise12HowManyRounds();
        promise12SideWithout();
        promise12Full();
        promise12RopeAnd1000();
        promise12SeedIsLeftOver();
        promise12SpeakersByDraw();
        promise12Cough();
        promise12LongestOrSilence();
        promise13None();
        promise13Twenty();
        promise13RefusedIsNotKept();
        promise13AllOfSectionTwo();
        promise13KeptByDriftToo();
        Check.end();
    }

    /** "UNKNOWN (a SPEAKER of the other SIDE, too)" */
    private static void promise11Speakers() {
        int[] not0 = {-1, 1, 3, 4, 9, 10, Integer.MIN_VALUE, Integer.MAX_VALUE};
        for (int p : not0) {
            Check.refused("11: p of " + p, UNKNOWN, Check::busy, x -> x.round(p, NONE, 1, NONE));
            Check.refused("11: p of " + p + " goes ahead of a word that is not good", UNKNOWN, Check::busy, x -> x.round(p, 0, 1, 0));
        }
        int[] not1 = {-1, 0, 2, 4, 9, 10, Integer.MIN_VALUE, Integer.MAX_VALUE};
        for (int q : not1) {
            Check.refused("11: q of " + q, UNKNOWN, Check::busy, x -> x.round(0, NONE, q, NONE));
            Check.refused("11: q of " + q + " goes ahead of a word that is not good", UNKNOWN, Check::busy, x -> x.round(0, 0, q, 0));
        }
        Check.due("11: the first of each", Check.busy().round(0, NONE, 1, NONE), 0);
        Check.due("11: the last of each", Check.busy().round(2, NONE, 3, NONE), 0);
        RopeWords ten = Check.feast("g1 0;s1;" + "p0 1 0 0;".repeat(5) + "p1 1 0 0;".repeat(5));
        Check.due("11: the tenth", ten.round(4, NONE, 9, 10), 1);
        Check.due("11: no eleventh", ten.round(4, NONE, 10, NONE), UNKNOWN);
    }

    /** "NOT: a WORD is not GOOD"; "(NONE: silence)" */
    private static void promise11NotGood() {
        int[] words = {0, 1, 9, 40, 13, 220, 130, 1110, -2, -10, Integer.MIN_VALUE, Integer.MAX_VALUE};
        for (int word : words) {
            Check.refused("11: v of " + word, NOT, Check::busy, x -> x.round(2, word, 1, NONE));
            Check.refused("11: w of " + word, NOT, Check::busy, x -> x.round(2, NONE, 1, word));
        }
        Check.due("11: v of NONE", Check.market().round(2, NONE, 1, 10), 2);
        Check.due("11: w of NONE", Check.market().round(2, 10, 1, NONE), -2);
        Check.due("11: the least word", Check.market().round(2, 10, 1, NONE), -2);
        Check.due("11: the greatest word", Check.market().round(2, 322, 1, NONE), -10);
    }

    private static RopeWords twoSaid() {
        RopeWords x = Check.market();
        x.round(2, 10, 1, 30);
        return x;
    }

    /** "says a GOOD WORD that was not said yet"; "NOT: a WORD .. was said" */
    private static void promise11WasSaid() {
        for (int word : new int[] {10, 30}) {
            Check.refused("11: v was said", NOT, RoundsBoundsTest::twoSaid, x -> x.round(2, word, 1, NONE));
            Check.refused("11: v was said by another", NOT, RoundsBoundsTest::twoSaid, x -> x.round(0, word, 1, NONE));
            Check.refused("11: w was said", NOT, RoundsBoundsTest::twoSaid, x -> x.round(2, NONE, 1, word));
            Check.refused("11: w was said by another", NOT, RoundsBoundsTest::twoSaid, x -> x.round(2, NONE, 3, word));
        }
        Check.due("11: another one was not", twoSaid().round(2, 11, 1, NONE), -3);
        Check.due("11: nor this", twoSaid().round(2, NONE, 1, 31), 2);
        RopeWords silent = Check.market();
        silent.round(0, NONE, 1, NONE);
        Check.due("11: silence may come again", silent.round(0, NONE, 1, NONE), 0);
    }

    /** "both are the same one" */
    private static void promise11SameWord() {
        Check.refused("11: the same", NOT, Check::market, x -> x.round(2, 10, 1, 10));
        Check.refused("11: the same", NOT, Check::market, x -> x.round(2, 322, 1, 322));
        Check.due("11: as long, but not the same", Check.market().round(2, 20, 1, 310), 0);
        Check.due("11: the next one", Check.market().round(2, 10, 1, 11), 0);
        Check.due("11: silence of both is none", Check.market().round(2, NONE, 1, NONE), 0);
    }

    private static RopeWords fiveOfBreath() {
        return Check.feast("g1 0;s4;s5;s6;p0 5 0 0;p1 5 0 0;");
    }

    /** "said with LENGTH no more than his BREATH"; "or it is longer than BREATH" */
    private static void promise11Breath() {
        Check.due("11: v of one less", fiveOfBreath().round(0, 10, 1, NONE), -4);
        Check.due("11: v of just his breath", fiveOfBreath().round(0, 20, 1, NONE), -5);
        Check.refused("11: v of one more", NOT, RoundsBoundsTest::fiveOfBreath, x -> x.round(0, 30, 1, NONE));
        Check.due("11: w of one less", fiveOfBreath().round(0, NONE, 1, 10), 4);
        Check.due("11: w of just his breath", fiveOfBreath().round(0, NONE, 1, 20), 5);
        Check.refused("11: w of one more", NOT, RoundsBoundsTest::fiveOfBreath, x -> x.round(0, NONE, 1, 30));
        Check.refused("11: v is fine, w is not", NOT, RoundsBoundsTest::fiveOfBreath, x -> x.round(0, 20, 1, 30));
        Check.refused("11: w is fine, v is not", NOT, RoundsBoundsTest::fiveOfBreath, x -> x.round(0, 30, 1, 20));
        RopeWords most = Check.feast("g4 0;s9;e4;e5;p0 40 0 0;p1 40 0 0;");
        Check.due("11: 41 by 40", most.round(0, 11112, 1, NONE), NOT);
        Check.due("11: 40 by 40", most.round(0, 11111, 1, NONE), -40);
    }

    /** "BREATH is LENGTH less then" */
    private static void promise11BreathIsLess() {
        RopeWords x = fiveOfBreath();
        x.round(0, 20, 1, 10);
        Check.due("11: none left", x.speaker(0, 2), 0);
        Check.due("11: one left", x.speaker(1, 2), 1);
        Check.due("11: as told", x.speaker(0, 1), 5);
        RopeWords y = Check.feast("g1 0;s1;s2;p0 3 0 0;p1 3 0 0;p1 3 0 0;");
        y.round(0, 20, 1, NONE);
        Check.due("11: 2 of 1 that is left", y.round(0, 20, 1, NONE), NOT);
        Check.due("11: 1 of 1 that is left", y.round(0, 10, 1, NONE), -1);
        Check.due("11: none left", y.speaker(0, 2), 0);
    }

    /** "Behind each ROUND all of both SIDES who did not speak have 1 more BREATH (no more than told)." */
    private static void promise11Rest() {
        RopeWords x = Check.feast("g1 0;s1;s2;s3;p0 3 0 0;p0 3 0 0;p1 3 0 0;p1 3 0 0;");
        x.round(0, 20, 2, 10);
        int[] first = {1, 3, 2, 3};
        dueBreath("11: who spoke does not rest, who has all has no more", x, first);
        x.round(1, 30, 3, NONE);
        int[] second = {2, 0, 3, 3};
        dueBreath("11: both of those rest, one to what was told", x, second);
        x.round(0, NONE, 2, NONE);
        int[] third = {3, 1, 3, 3};
        dueBreath("11: who is silent rests", x, third);
        x.round(1, NONE, 3, NONE);
        int[] fourth = {3, 2, 3, 3};
        dueBreath("11: no more than told", x, fourth);
        x.drift(1);
        Check.holds("11: still no more", x.speaker(0, 2) <= 3 && x.speaker(1, 2) <= 3);
    }

    private static void dueBreath(String call, RopeWords x, int[] due) {
        for (int p = 0; p < due.length; p++) {
            Check.due(call + ", breath of " + p, x.speaker(p, 2), due[p]);
        }
    }

    /** "times (10 and WEIGHT of its SPEAKER / 10) / 10": by 10 longer, a weight's tens are seen whole. */
    private static void promise11Weight() {
        int[][] due = {{0, 10}, {9, 10}, {10, 11}, {11, 11}, {19, 11}, {20, 12}, {89, 18}, {90, 19}, {98, 19}, {99, 19}};
        for (int[] row : due) {
            String other = "p1 40 " + (99 - row[0]) + " 0;";
            RopeWords x = Check.feast("g2 0;s9;s1;p0 40 " + row[0] + " 0;" + other);
            Check.due("11: side 0 of weight " + row[0], x.round(0, 120, 1, NONE), -row[1]);
            RopeWords y = Check.feast("g2 0;s9;s1;p1 40 " + row[0] + " 0;" + other.replace("p1", "p0"));
            Check.due("11: side 1 of weight " + row[0], y.round(1, NONE, 0, 120), row[1]);
        }
    }

    /** "/ cuts towards 0" */
    private static void promise11Cut() {
        int[][] due = {{1, 99, 1}, {2, 99, 3}, {5, 99, 9}, {9, 10, 9}, {9, 19, 9}, {9, 20, 10}, {4, 20, 4}, {5, 20, 6}, {6, 50, 9}, {7, 50, 10}};
        for (int[] row : due) {
            String grammar = "g1 0;s" + row[0] + ";";
            RopeWords x = Check.feast(grammar + "p0 40 " + row[1] + " 0;p1 40 0 0;");
            Check.due("11: to side 0 by " + row[0] + ", weight " + row[1], x.round(0, 10, 1, NONE), -row[2]);
            RopeWords y = Check.feast(grammar + "p0 40 0 0;p1 40 " + row[1] + " 0;");
            Check.due("11: to side 1 by " + row[0] + ", weight " + row[1], y.round(0, NONE, 1, 10), row[2]);
        }
    }

    /** "less MUD (0 at least)" */
    private static void promise11Mud() {
        for (int mud = 0; mud <= 9; mud++) {
            String text = "g1 " + mud + ";s8;p0 40 0 0;p1 40 0 0;";
            int due = mud < 8 ? 8 - mud : 0;
            Check.due("11: 8 to side 0 in mud " + mud, Check.feast(text).round(0, 10, 1, NONE), -due);
            Check.due("11: 8 to side 1 in mud " + mud, Check.feast(text).round(0, NONE, 1, 10), due);
        }
        RopeWords cut = Check.feast("g1 1;s1;p0 40 99 0;p1 40 0 0;");
        Check.due("11: cut ahead of mud: 1 * 19 / 10 less 1", cut.round(0, 10, 1, NONE), 0);
        Check.due("11: nobody pulls, mud or not", Check.feast("g1 9;s1;p0 9 0 0;p1 9 0 0;").round(0, NONE, 1, NONE), 0);
    }

    /** "The SIDE of the longer WORD pulls .. Alike: nobody pulls." */
    private static void promise11LongerByOne() {
        String text = "g1 0;s4;s5;s6;s5;p0 9 0 0;p1 9 0 0;";
        Check.due("11: one shorter", Check.feast(text).round(0, 10, 1, 20), 1);
        Check.due("11: alike", Check.feast(text).round(0, 40, 1, 20), 0);
        Check.due("11: one longer", Check.feast(text).round(0, 30, 1, 20), -1);
        RopeWords x = Check.feast(text);
        x.round(0, 40, 1, 20);
        Check.due("11: alike: the rope", x.told(6), 0);
        Check.due("11: alike: a round", x.told(7), 1);
        Check.due("11: alike: both were said", x.told(8), 2);
        Check.due("11: alike: breath", x.speaker(0, 2) + x.speaker(1, 2), 8);
    }

    /**
     * The rope at 499, or -499, for whichever side pulls: by 68 in seven rounds, and by 23. Speaker 8
     * pulls as far as he is longer, 0 is of the other side; words left: 40 of 1, 30 of 5, 440 of 2.
     */
    private static RopeWords nearEnd(int side) {
        String other = "p" + (1 - side) + " 40 0 0;";
        RopeWords x = Check.feast("g4 0;s9;s9;s5;s1;" + other + ("p" + side + " 40 99 0;").repeat(7) + "p" + side + " 40 0 0;");
        int[] words = {11110, 11120, 11210, 11220, 12110, 12120, 12210};
        for (int i = 0; i < words.length; i++) {
            Check.due("11: a long pull", pull(x, side, i + 1, words[i]), 68);
        }
        Check.due("11: to 499", pull(x, side, 8, 1130), 23);
        return x;
    }

    /** A round in which one says a word and 0, of the other side, is silent: how far to the side. */
    private static int pull(RopeWords x, int side, int p, int word) {
        return side == 0 ? -x.round(p, word, 0, NONE) : x.round(0, NONE, p, word);
    }

    /** "THE ROPE goes so far to it (to 500 either way)"; "how far THE ROPE went" */
    private static void promise11RopeEnd() {
        for (int side = 0; side < 2; side++) {
            int way = side == 0 ? -1 : 1;
            RopeWords x = nearEnd(side);
            Check.due("11: near its end", x.told(6), 499 * way);
            Check.due("11: no pull", pull(x, side, 8, NONE), 0);
            Check.due("11: it stays", x.told(6), 499 * way);
            Check.due("11: just to its end", pull(x, side, 8, 40), 1);
            Check.due("11: at its end", x.told(6), 500 * way);
            Check.due("11: no farther by 2", pull(x, side, 8, 440), 0);
            Check.due("11: still at its end", x.told(6), 500 * way);
            RopeWords past = nearEnd(side);
            Check.due("11: one too far", pull(past, side, 8, 440), 1);
            Check.due("11: it ends", past.told(6), 500 * way);
            RopeWords far = nearEnd(side);
            Check.due("11: four too far", pull(far, side, 8, 30), 1);
            Check.due("11: it ends", far.told(6), 500 * way);
        }
    }

    /** What is beyond the end is lost: the rope comes back from 500 at once. */
    private static void promise11RopeEndKeepsOn() {
        RopeWords x = nearEnd(1);
        x.round(0, NONE, 8, 30);
        Check.due("11: back by 2", x.round(0, 440, 1, NONE), -2);
        Check.due("11: the rope", x.told(6), 498);
        Check.due("11: by 1 to 499", x.round(0, NONE, 8, 40), 1);
        RopeWords y = nearEnd(0);
        y.round(8, 30, 0, NONE);
        Check.due("11: back by 2", y.round(1, NONE, 0, 440), 2);
        Check.due("11: the rope", y.told(6), -498);
        Check.due("11: undone", y.undo(), 9);
        Check.due("11: at its end again", y.told(6), -500);
        Check.due("11: undone", y.undo(), 8);
        Check.due("11: near it", y.told(6), -499);
    }

    /** The k-th of 42 words: 36 of two stems, then 6 of one. */
    private static int wordOf(int k) {
        return k < 36 ? 100 * (k / 6 + 1) + 10 * (k % 6 + 1) : 10 * (k - 35);
    }

    /** With the first n of those words said, two a round while there are two; speakers 2 and 3 have all their breath. */
    private static RopeWords saidOf(int n) {
        RopeWords x = Check.feast("g2 0;s1;s1;s1;s1;s1;s1;p0 40 0 0;p1 40 0 0;p0 40 0 0;p1 40 0 0;");
        for (int k = 0; k < n; k += 2) {
            int answer = x.round(0, wordOf(k), 1, k + 1 < n ? wordOf(k + 1) : NONE);
            Check.holds("11: round " + k / 2 + " answered " + answer, answer > UNKNOWN);
        }
        return x;
    }

    /** "WORDS that were said are kept (40; then the oldest is forgotten)." */
    private static void promise11FortyWords() {
        for (int n = 38; n <= 40; n++) {
            RopeWords x = saidOf(n);
            Check.due("11: words kept of " + n, x.told(8), n);
            Check.due("11: the oldest of " + n, x.said(0), wordOf(0));
            Check.due("11: the newest of " + n, x.said(n - 1), wordOf(n - 1));
            Check.due("11: no more of " + n, x.said(n), NONE);
        }
        Check.refused("11: the 40th back may not come again", NOT, () -> saidOf(40), x -> x.round(2, wordOf(0), 3, NONE));
        Check.refused("11: nor the newest", NOT, () -> saidOf(40), x -> x.round(2, NONE, 3, wordOf(39)));
        RopeWords x = saidOf(41);
        Check.due("11: words kept of 41", x.told(8), 40);
        Check.due("11: the oldest of 41", x.said(0), wordOf(1));
        Check.due("11: the newest of 41", x.said(39), wordOf(40));
        Check.due("11: no more of 41", x.said(40), NONE);
        Check.refused("11: the 40th back of 41", NOT, () -> saidOf(41), y -> y.round(2, wordOf(1), 3, NONE));
        Check.due("11: the 41st back may come again", x.round(2, wordOf(0), 3, NONE), -2);
        Check.due("11: it is the newest then", x.said(39), wordOf(0));
        Check.due("11: the next is forgotten", x.said(0), wordOf(2));
        Check.due("11: and may come again", x.round(2, NONE, 3, wordOf(1)), 2);
    }

    /** A round of two words forgets two; a round of silence none. */
    private static void promise11FortyWordsByTwo() {
        RopeWords x = saidOf(40);
        x.round(2, NONE, 3, NONE);
        Check.due("11: silence forgets none", x.said(0), wordOf(0));
        x.round(2, wordOf(40), 3, wordOf(41));
        Check.due("11: still 40", x.told(8), 40);
        Check.due("11: two are forgotten", x.said(0), wordOf(2));
        Check.due("11: side 0's word first", x.said(38), wordOf(40));
        Check.due("11: then side 1's", x.said(39), wordOf(41));
        RopeWords y = saidOf(39);
        y.round(2, wordOf(40), 3, wordOf(41));
        Check.due("11: of 39 and 2", y.told(8), 40);
        Check.due("11: one is forgotten", y.said(0), wordOf(1));
        Check.due("11: the forgotten may come again at once", y.round(2, wordOf(0), 3, NONE), -2);
        Check.due("11: a word forgotten by this round alone was said yet", saidOf(40).round(2, wordOf(40), 3, wordOf(0)), NOT);
    }

    private static void promise11RoundsAreCounted() {
        RopeWords x = Check.market();
        for (int i = 0; i < 5; i++) {
            Check.due("11: rounds", x.told(7), i);
            x.round(0, NONE, 1, NONE);
            x.round(0, 0, 1, NONE);
        }
        Check.due("11: those refused are not counted", x.told(7), 5);
    }

    /** It takes more than 512 calls to come so far, which the document leaves free; it is kept to all the same. */
    private static RopeWords atRounds(int rounds) {
        RopeWords x = Check.feast("g1 0;s1;p0 1 0 0;p1 1 0 0;");
        for (int left = rounds; left > 0; left -= 99) {
            x.drift(Math.min(left, 99));
        }
        return x;
    }

    /** "FULL: ROUNDS are above 90000." */
    private static void promise11Full() {
        RopeWords x = atRounds(89999);
        Check.due("11: at 89999", x.round(0, NONE, 1, NONE), 0);
        Check.due("11: at 90000", x.round(0, NONE, 1, NONE), 0);
        Check.due("11: at 90001", x.round(0, NONE, 1, NONE), FULL);
        Check.due("11: rounds", x.told(7), 90001);
        Check.refused("11: at 90001", FULL, () -> atRounds(90001), y -> y.round(0, NONE, 1, NONE));
        Check.due("11: unknown goes ahead of full", x.round(1, NONE, 1, NONE), UNKNOWN);
        Check.due("11: not goes ahead of full", x.round(0, 0, 1, NONE), NOT);
        x.undo();
        Check.due("11: undone, so there is room", x.round(0, NONE, 1, NONE), 0);
    }

    /** "n ROUNDS (1 .. 99)" */
    private static void promise12HowManyRounds() {
        int[] outside = {0, 100, -1, 101, Integer.MIN_VALUE, Integer.MAX_VALUE};
        for (int n : outside) {
            Check.refused("12: drift(" + n + ")", OUTSIDE, Check::busy, x -> x.drift(n));
        }
        for (int n : new int[] {1, 2, 98, 99}) {
            RopeWords x = Check.market();
            Check.due("12: drift(" + n + ") is the rope and 1000", x.drift(n) - 1000, x.told(6));
            Check.due("12: rounds by drift(" + n + ")", x.told(7), n);
            Check.due("12: drift(" + n + ") is undone at once", x.told(11), 1);
        }
    }

    /** "NOT: a SIDE without SPEAKERS" */
    private static void promise12SideWithout() {
        Check.refused("12: no speakers", NOT, RopeWords::new, x -> x.drift(1));
        Check.refused("12: none of side 1", NOT, () -> Check.feast("g1 0;s1;p0 1 1 1;p0 1 1 1;"), x -> x.drift(1));
        Check.refused("12: none of side 0", NOT, () -> Check.feast("g1 0;s1;p1 1 1 1;p1 1 1 1;"), x -> x.drift(99));
        Check.due("12: one of each", Check.feast("g1 0;p0 1 1 1;p1 1 1 1;").drift(1), 1000);
        Check.due("12: outside goes ahead of not", new RopeWords().drift(0), OUTSIDE);
        Check.due("12: outside goes ahead of not", new RopeWords().drift(100), OUTSIDE);
    }

    /** "FULL: ROUNDS are above 90000" */
    private static void promise12Full() {
        RopeWords x = atRounds(90000);
        Check.holds("12: at 90000", x.drift(99) >= 500);
        Check.due("12: rounds", x.told(7), 90099);
        Check.refused("12: at 90001", FULL, () -> atRounds(90001), y -> y.drift(1));
        Check.due("12: outside goes ahead of full", x.drift(0), OUTSIDE);
        Check.due("12: outside goes ahead of full", x.drift(100), OUTSIDE);
    }

    /** "THE ROPE, and 1000": 500 at least, 1500 at most. */
    private static void promise12RopeAnd1000() {
        String grammar = "g1 0;s9;";
        RopeWords x = Check.feast(grammar + "p0 9 0 0;p1 9 0 100;");
        Check.due("12: to side 0", x.drift(1), 991);
        RopeWords y = Check.feast(grammar + "p0 9 0 100;p1 9 0 0;");
        Check.due("12: to side 1", y.drift(1), 1009);
        for (int side = 0; side < 2; side++) {
            RopeWords end = nearEnd(side);
            pull(end, side, 8, 440);
            Check.due("12: at its end, not beyond", pull(end, side, 1, 40), 0);
            int rope = end.told(6);
            end.drift(1);
            Check.due("12: the answer is the rope and 1000", end.drift(1) - 1000, end.told(6));
            Check.holds("12: within its ends", Math.abs(rope) <= 500 && Math.abs(end.told(6)) <= 500);
        }
        RopeWords still = driftAtEnd("p0 40 0 100;", "p1 40 99 0;");
        Check.due("12: 500 and 1000", still.drift(1), 1500);
        RopeWords other = driftAtEnd("p1 40 0 100;", "p0 40 99 0;");
        Check.due("12: -500 and 1000", other.drift(1), 500);
    }

    /** Pulled to its end by draws alone: one side always coughs, the other has nine of long breath and many words. */
    private static RopeWords driftAtEnd(String coughs, String speaks) {
        RopeWords x = Check.feast("g4 0;s9;s8;s7;s6;s5;s4;e5;e3;e2;e1;" + coughs + speaks.repeat(9));
        for (int i = 0; i < 5; i++) {
            x.drift(99);
        }
        return x;
    }

    private static long nextSeed(long seed, int draws) {
        long next = seed;
        for (int i = 0; i < draws; i++) {
            next = (next * 1103515245L + 12345L) % 2147483648L;
        }
        return next;
    }

    /** "each DRAW it becomes it times 1103515245 and 12345, left over by 2 to the 31" */
    private static void promise12SeedIsLeftOver() {
        int[] seeds = {0, 1, 2, 65535, 65536, 1073741823, 1073741824, 2147483646, 2147483647};
        for (int seed : seeds) {
            RopeWords x = Check.market();
            x.seed(seed);
            x.drift(1);
            Check.due("12: four draws from " + seed, x.seed(seed), nextSeed(seed, 4));
            x.drift(7);
            Check.due("12: 28 draws from " + seed, x.seed(0), nextSeed(seed, 28));
        }
        RopeWords known = Check.market();
        known.drift(1);
        // 12345; 1406932606; 654583775; 1449466924
        Check.due("12: four draws from 0, by hand", known.seed(0), 1449466924);
    }

    /** "for each SIDE a DRAW of its SPEAKERS (0 first)"; "the DRAW of n is it / 65536, left over by n" */
    private static void promise12SpeakersByDraw() {
        for (int seed = 0; seed < 40; seed++) {
            RopeWords x = Check.feast("g1 0;s1;s2;p1 2 0 0;p0 1 0 0;p1 2 0 0;p0 1 0 0;p0 1 0 0;p1 2 0 0;p1 2 0 0;");
            int[] side0 = {1, 3, 4};
            int[] side1 = {0, 2, 5, 6};
            x.seed(seed);
            x.drift(1);
            int p = side0[(int) (nextSeed(seed, 1) / 65536 % 3)];
            int q = side1[(int) (nextSeed(seed, 3) / 65536 % 4)];
            for (int i = 0; i < 7; i++) {
                boolean spoke = i == p || i == q;
                Check.due("12: breath of " + i + " by seed " + seed, x.speaker(i, 2), spoke ? 0 : x.speaker(i, 1));
            }
            Check.due("12: side 0 said", x.said(0), 10);
            Check.due("12: side 1 said", x.said(1), 20);
        }
    }

    /** A seed by which the draw of 100 of a side, in the first round, is just so much. */
    private static int seedFor(int side, int draw) {
        int seed = 0;
        while (nextSeed(seed, side == 0 ? 2 : 4) / 65536 % 100 != draw) {
            seed++;
        }
        return seed;
    }

    /** "a DRAW of 100: below C: silence" */
    private static void promise12Cough() {
        int[][] rows = {{0, 0, 1}, {0, 1, 0}, {1, 0, 1}, {1, 1, 1}, {1, 2, 0}, {50, 49, 1}, {50, 50, 1}, {50, 51, 0},
            {98, 99, 0}, {99, 98, 1}, {99, 99, 1}, {99, 100, 0}};
        for (int[] row : rows) {
            RopeWords x = Check.feast("g1 0;s3;p0 9 0 " + row[1] + ";p1 9 0 100;");
            x.seed(seedFor(0, row[0]));
            Check.due("12: side 0, draw " + row[0] + ", C " + row[1], x.drift(1), 1000 - 3 * row[2]);
            RopeWords y = Check.feast("g1 0;s3;p0 9 0 100;p1 9 0 " + row[1] + ";");
            y.seed(seedFor(1, row[0]));
            Check.due("12: side 1, draw " + row[0] + ", C " + row[1], y.drift(1), 1000 + 3 * row[2]);
            Check.due("12: breath of who coughs or speaks", y.speaker(1, 2), 9 - 3 * row[2]);
        }
    }

    /** "else the LONGEST WORD his BREATH bears, if it was not said yet (not in this ROUND, either), else silence" */
    private static void promise12LongestOrSilence() {
        RopeWords x = Check.feast("g1 0;s3;s3;s2;p0 9 0 0;p1 9 0 100;");
        Check.due("12: the least of like ones", x.drift(1), 997);
        Check.due("12: said", x.said(0), 10);
        Check.due("12: it was said: silence, though 20 and 30 were not", x.drift(1), 997);
        Check.due("12: one word", x.told(8), 1);
        RopeWords both = Check.feast("g1 0;s3;s2;p0 3 0 0;p1 3 0 0;");
        Check.due("12: not in this round, either", both.drift(1), 997);
        Check.due("12: one word", both.told(8), 1);
        Check.due("12: who may not rests", both.speaker(1, 2), 3);
        RopeWords short1 = Check.feast("g1 0;s3;s2;p0 3 0 0;p1 2 0 0;");
        Check.due("12: 3 of 3 against 2 of 2", short1.drift(1), 999);
        RopeWords none = Check.feast("g1 0;s3;s2;p0 1 0 0;p1 2 0 0;");
        Check.due("12: his breath bears none", none.drift(1), 1002);
        Check.due("12: he is silent", none.told(8), 1);
        RopeWords forgotten = saidOf(41);
        forgotten.seed(seedOfSpeakers(1, 1));
        forgotten.drift(1);
        Check.due("12: a word that was forgotten is not said any more", forgotten.said(39), wordOf(0));
    }

    /** A seed by which the first round is of the k-th of two of side 0, the l-th of two of side 1. */
    private static int seedOfSpeakers(int k, int l) {
        int seed = 0;
        while (nextSeed(seed, 1) / 65536 % 2 != k || nextSeed(seed, 3) / 65536 % 2 != l) {
            seed++;
        }
        return seed;
    }

    /** "NOT: none." */
    private static void promise13None() {
        Check.refused("13: of a new object", NOT, RopeWords::new, RopeWords::undo);
        Check.refused("13: of a new feast", NOT, Check::market, RopeWords::undo);
        RopeWords x = Check.market();
        x.round(0, NONE, 1, NONE);
        Check.due("13: just one", x.undo(), 0);
        Check.due("13: none is left", x.undo(), NOT);
        Check.due("13: none is left", x.told(11), 0);
    }

    private static RopeWords silentRounds(int n) {
        RopeWords x = Check.market();
        for (int i = 0; i < n; i++) {
            x.round(0, NONE, 1, NONE);
        }
        return x;
    }

    /** "(20 at most are kept, the oldest are lost)"; "how many more can be" */
    private static void promise13Twenty() {
        for (int n : new int[] {1, 2, 19, 20, 21, 22, 39, 40, 41, 60}) {
            RopeWords x = silentRounds(n);
            int kept = Math.min(n, 20);
            Check.due("13: can be undone of " + n, x.told(11), kept);
            for (int left = kept - 1; left >= 0; left--) {
                Check.due("13: undo() of " + n, x.undo(), left);
                Check.due("13: rounds of " + n, x.told(7), n - kept + left);
            }
            Check.due("13: no more of " + n, x.undo(), NOT);
            Check.due("13: rounds left of " + n, x.told(7), n - kept);
        }
        RopeWords again = silentRounds(25);
        again.undo();
        again.undo();
        again.round(0, NONE, 1, NONE);
        Check.due("13: 18 and one", again.told(11), 19);
        again.round(0, NONE, 1, NONE);
        again.round(0, NONE, 1, NONE);
        Check.due("13: 20 again", again.told(11), 20);
        for (int i = 0; i < 20; i++) {
            again.undo();
        }
        Check.due("13: the oldest is lost", again.told(7), 6);
    }

    /** "the latest round(), drift() that was not refused" */
    private static void promise13RefusedIsNotKept() {
        RopeWords x = Check.market();
        x.round(0, 10, 1, NONE);
        x.round(0, 10, 1, NONE);
        x.round(1, NONE, 1, NONE);
        x.drift(0);
        x.drift(100);
        Check.due("13: one can be undone", x.told(11), 1);
        Check.due("13: it is the first", x.undo(), 0);
        Check.due("13: no word", x.told(8), 0);
        Check.due("13: no round", x.told(7), 0);
    }

    /** "all of section 2 is as ahead of it; THE SEED stays" */
    private static void promise13AllOfSectionTwo() {
        RopeWords x = saidOf(40);
        x.round(2, wordOf(40), 3, NONE);
        Check.due("13: the oldest is forgotten", x.said(0), wordOf(1));
        Check.due("13: undone", x.undo(), 19);
        Check.due("13: the oldest is known again", x.said(0), wordOf(0));
        Check.due("13: the newest", x.said(39), wordOf(39));
        Check.due("13: and may not be said", x.round(2, wordOf(0), 3, NONE), NOT);
        Check.due("13: the other one may", x.round(2, wordOf(40), 3, NONE), -1);
        Check.due("13: breath", x.speaker(2, 2), 39);
        x.undo();
        Check.due("13: breath again", x.speaker(2, 2), 40);
        RopeWords marked = Check.busy();
        marked.undo();
        Check.due("13: marks stay", marked.told(9), 2);
        Check.due("13: the book stays", marked.told(10), 3);
        Check.due("13: the text stays", marked.told(5), 20);
        Check.due("13: image 0 stays", marked.goBack(0), 1);
    }

    private static void promise13KeptByDriftToo() {
        RopeWords x = Check.market();
        x.seed(5);
        for (int i = 0; i < 21; i++) {
            x.drift(2);
        }
        long seed = nextSeed(5, 21 * 8);
        Check.due("13: 20 can be undone", x.told(11), 20);
        for (int i = 19; i >= 0; i--) {
            Check.due("13: a drift is undone at once", x.undo(), i);
            Check.due("13: rounds", x.told(7), 2 + 2 * i);
        }
        Check.due("13: the first is lost", x.undo(), NOT);
        Check.due("13: the seed stays", x.seed(0), seed);
    }
}
