import java.util.LinkedHashMap;
import java.util.Map;
import java.util.function.ToIntFunction;

/**
 * Promises 14 to 22 and the first half of section 3 of the document: each sentence that names a
 * bound, with the last that is taken and the first that is refused.
 */
public final class TriedBoundsTest {
    private static final int NONE = RopeWords.NONE;
    private static final int UNKNOWN = RopeWords.UNKNOWN;
    private static final int OUTSIDE = RopeWords.OUTSIDE;
    private static final int NOT = RopeWords.NOT;
    private static final int BILLION = 1000000000;
    private static final String GREATEST = "g4 0;s9;s9;s9;s9;s9;s9;e5;e5;e5;e5;";

    public static void main(String[] args) {
        nothingChangesByIt();
        promise14Bounds();
        promise14SyllablesAtMost();
        promise14LeastOfLikeOnes();
        promise14None();
        promise15Bounds();
        promise15JustSoMany();
        promise15Greatest();
        promise16HowManyLengths();
        promise16Sets();
        promise16LastOne();
        promise16JustOneMore();
        promise16LosesFive();
        promise16AllAreSaid();
        promise16AnyOrder();
        promise17Sides();
        promise17Against();
        promise17Places();
        promise17SixAtMost();
        promise17LessIButNotBelow0();
        promise17NotLonger();
        promise17Rests();
        promise17FirstOfLikeOnes();
        promise17LongestOrNone();
        promise17RopeWithoutEnd();
        promise18Bounds();
        promise18LighterByOne();
        promise19Speakers();
        promise19ByOneMoreOrLess();
        promise19BreathNow();
        promise19RopeAtItsEnd();
        promise20Bounds();
        promise20Halves();
        promise20LeastOfLikeOnes();
        promise20TenAtMost();
        promise21Sets();
        promise21Odds();
        promise22Sides();
        promise22LeastOfLikeOnes();
        Check.end();
    }

    /** "3 TRIED; nothing changes by it." */
    private static void nothingChangesByIt() {
        Map<String, ToIntFunction<RopeWords>> calls = new LinkedHashMap<>();
        calls.put("14: longest(9, 0)", x -> x.longest(9, 0));
        calls.put("14: longest(9, 1)", x -> x.longest(9, 1));
        calls.put("15: howMany(8)", x -> x.howMany(8));
        calls.put("16: game(10, 1023, 0)", x -> x.game(10, 1023, 0));
        calls.put("16: game(3, 5, 2)", x -> x.game(3, 5, 2));
        calls.put("17: order(0, 5, NONE)", x -> x.order(0, 5, NONE));
        calls.put("17: order(1, 0, 1)", x -> x.order(1, 0, 1));
        calls.put("18: even(0)", x -> x.even(0));
        calls.put("18: even(1)", x -> x.even(1));
        calls.put("19: silence(0, 1)", x -> x.silence(0, 1));
        calls.put("20: pick(0)", x -> x.pick(0));
        calls.put("20: pick(1)", x -> x.pick(1));
        calls.put("21: coughs(15)", x -> x.coughs(15));
        calls.put("22: keepBack(0)", x -> x.keepBack(0));
        calls.put("24: spoke(0, NONE)", x -> x.spoke(0, NONE));
        calls.put("24: spoke(0, 0)", x -> x.spoke(0, 0));
        calls.put("27: judge()", RopeWords::judge);
        calls.forEach((call, done) -> Check.unchanged(call, Check::busy, done));
    }

    /** "LONGEST GOOD WORD of b syllables at most (0 .. 99)"; "what = 0 LENGTH, 1 the WORD; NONE. OUTSIDE." */
    private static void promise14Bounds() {
        for (int b : new int[] {-1, 100, -2, 101, Integer.MIN_VALUE, Integer.MAX_VALUE}) {
            Check.refused("14: longest(" + b + ", 0)", OUTSIDE, Check::busy, x -> x.longest(b, 0));
            Check.refused("14: longest(" + b + ", 1)", OUTSIDE, Check::busy, x -> x.longest(b, 1));
        }
        for (int what : new int[] {-1, 2, 3, Integer.MIN_VALUE, Integer.MAX_VALUE}) {
            Check.refused("14: longest(0, " + what + ")", OUTSIDE, Check::busy, x -> x.longest(0, what));
            Check.refused("14: longest(99, " + what + ")", OUTSIDE, Check::busy, x -> x.longest(99, what));
        }
        RopeWords x = Check.feast(GREATEST);
        int[][] due = {{0, NONE, NONE}, {1, NONE, NONE}, {98, 41, 11111}, {99, 41, 11111}};
        for (int[] row : due) {
            Check.due("14: longest(" + row[0] + ", 0)", x.longest(row[0], 0), row[1]);
            Check.due("14: longest(" + row[0] + ", 1)", x.longest(row[0], 1), row[2]);
        }
        Check.due("14: outside on a new object", new RopeWords().longest(100, 0), OUTSIDE);
        Check.due("14: outside on a new object", new RopeWords().longest(0, 2), OUTSIDE);
    }

    private static void promise14SyllablesAtMost() {
        RopeWords x = Check.feast(GREATEST);
        int[][] due = {{8, NONE, NONE}, {9, 9, 10}, {10, 9, 10}, {13, 9, 10}, {14, 14, 11}, {15, 14, 11}, {17, 14, 11}, {18, 18, 110},
            {22, 18, 110}, {23, 23, 111}, {26, 23, 111}, {27, 27, 1110}, {31, 27, 1110}, {32, 32, 1111}, {35, 32, 1111},
            {36, 36, 11110}, {40, 36, 11110}, {41, 41, 11111}, {42, 41, 11111}};
        for (int[] row : due) {
            Check.due("14: longest(" + row[0] + ", 0)", x.longest(row[0], 0), row[1]);
            Check.due("14: longest(" + row[0] + ", 1)", x.longest(row[0], 1), row[2]);
        }
    }

    /** "of like ones the least number: the WORD" */
    private static void promise14LeastOfLikeOnes() {
        Check.due("14: of 10, 20", Check.feast("g1 0;s2;s2;").longest(2, 1), 10);
        Check.due("14: of 12, 13, 110", Check.feast("g2 0;s2;e1;e2;e2;").longest(4, 1), 12);
        Check.due("14: of 30, 11, 12, 110", Check.feast("g2 0;s1;s9;s2;e1;e1;").longest(2, 1), 11);
        Check.due("14: of 21, 220", Check.feast("g2 0;s1;s2;e2;n0 0;").longest(4, 1), 21);
        Check.due("14: 110 is barred, so 120", Check.feast("g2 0;s2;s2;n0 0;").longest(4, 1), 120);
        Check.due("14: with 120 barred too, 210", Check.feast("g2 0;s2;s2;n0 0;n0 1;").longest(4, 1), 210);
        Check.due("14: with 210 barred too, 220", Check.feast("g2 0;s2;s2;n0 0;n0 1;n1 0;").longest(4, 1), 220);
        Check.due("14: with all barred, 10", Check.feast("g2 0;s2;s2;n0 0;n0 1;n1 0;n1 1;").longest(4, 1), 10);
        RopeWords x = Check.feast("g1 0;s2;s2;p0 9 0 0;p1 9 0 0;");
        x.round(0, 10, 1, NONE);
        Check.due("14: said or not", x.longest(2, 1), 10);
    }

    /** "NONE" */
    private static void promise14None() {
        Check.due("14: no grammar", new RopeWords().longest(99, 1), NONE);
        Check.due("14: no stems", Check.feast("g4 0;e1;").longest(99, 1), NONE);
        RopeWords x = Check.feast("g1 0;s3;e1;");
        Check.due("14: one too few", x.longest(2, 0), NONE);
        Check.due("14: one too few, the word", x.longest(2, 1), NONE);
        Check.due("14: just so many", x.longest(3, 0), 3);
        Check.due("14: just so many, the word", x.longest(3, 1), 10);
    }

    /** "HOW MANY GOOD WORDS of just l syllables (0 .. 99)." */
    private static void promise15Bounds() {
        for (int l : new int[] {-1, 100, -2, 101, Integer.MIN_VALUE, Integer.MAX_VALUE}) {
            Check.refused("15: howMany(" + l + ")", OUTSIDE, Check::busy, x -> x.howMany(l));
        }
        RopeWords x = Check.market();
        for (int l : new int[] {0, 1, 42, 43, 98, 99}) {
            Check.due("15: howMany(" + l + ")", x.howMany(l), 0);
        }
        Check.due("15: outside on a new object", new RopeWords().howMany(100), OUTSIDE);
    }

    private static void promise15JustSoMany() {
        RopeWords one = Check.feast("g1 0;s4;");
        int[] dueOne = {0, 0, 0, 0, 1, 0};
        for (int l = 0; l < dueOne.length; l++) {
            Check.due("15: one stem, " + l, one.howMany(l), dueOne[l]);
        }
        RopeWords bars = Check.feast("g3 0;s1;e1;n0 0;");
        int[] dueBars = {0, 1, 1, 0, 0};
        for (int l = 0; l < dueBars.length; l++) {
            Check.due("15: it may not stand ahead of itself, " + l, bars.howMany(l), dueBars[l]);
        }
        RopeWords said = Check.feast("g1 0;s4;p0 9 0 0;p1 9 0 0;");
        said.round(0, 10, 1, NONE);
        Check.due("15: said or not", said.howMany(4), 1);
        RopeWords all = Check.feast("g3 0;s1;e1;e1;");
        int[] dueAll = {0, 1, 3, 3, 2, 0}; // 1, 2 or 3 stems, and one more with either ending
        for (int l = 0; l < dueAll.length; l++) {
            Check.due("15: runs of one stem, " + l, all.howMany(l), dueAll[l]);
        }
    }

    private static void promise15Greatest() {
        RopeWords x = Check.feast(GREATEST);
        int[][] due = {{9, 6}, {14, 24}, {18, 36}, {23, 144}, {27, 216}, {32, 864}, {36, 1296}, {41, 5184}, {40, 0}, {42, 0}, {35, 0}, {37, 0}};
        for (int[] row : due) {
            Check.due("15: howMany(" + row[0] + ")", x.howMany(row[0]), row[1]);
        }
    }

    private static void dueGame(String why, int n, int set, int last, int due) {
        Check.due("16: game(" + n + ", " + set + ", " + last + "): " + why, new RopeWords().game(n, set, last), due);
    }

    private static void refusedGame(int n, int set, int last) {
        Check.refused("16: game(" + n + ", " + set + ", " + last + ")", OUTSIDE, Check::busy, x -> x.game(n, set, last));
    }

    /** "LENGTHS of 1 to n (n 1 .. 10)" */
    private static void promise16HowManyLengths() {
        for (int n : new int[] {0, 11, -1, 12, 31, 32, 33, Integer.MIN_VALUE, Integer.MAX_VALUE}) {
            refusedGame(n, 0, 0);
            refusedGame(n, 1, 0);
        }
        dueGame("the least n", 1, 1, 0, 1001);
        dueGame("the greatest n", 10, 1023, 0, 1007);
        dueGame("the greatest n and length", 10, 512, 0, 1010);
    }

    /** "from a SET of LENGTHS left (bit k: LENGTH k and 1)"; "the SET of numbers up to n" */
    private static void promise16Sets() {
        for (int n = 1; n <= 10; n++) {
            dueGame("the empty set", n, 0, 0, 1000);
            dueGame("just the greatest", n, 1 << (n - 1), 0, 1000 + n);
            Check.holds("16: all of " + n, new RopeWords().game(n, (1 << n) - 1, 0) > 900);
            refusedGame(n, 1 << n, 0);
            refusedGame(n, (1 << n) + 1, 0);
            refusedGame(n, -1, 0);
            refusedGame(n, 1 << 30, 0);
            refusedGame(n, Integer.MIN_VALUE, 0);
            refusedGame(n, Integer.MAX_VALUE, 0);
        }
    }

    /** "last 0 .. n; .. not the last one"; "the last one said (0: none)" */
    private static void promise16LastOne() {
        for (int n = 1; n <= 10; n++) {
            refusedGame(n, 0, -1);
            refusedGame(n, 0, n + 1);
            refusedGame(n, 1 << (n - 1), n);
            refusedGame(n, 1, 1);
            dueGame("the greatest was last", n, 0, n, 1000);
            dueGame("none was last: 1 is no more than one", n, 1, 0, 1001);
        }
        refusedGame(3, 0, Integer.MIN_VALUE);
        refusedGame(3, 0, Integer.MAX_VALUE);
        refusedGame(10, 1023, 5);
        refusedGame(10, 0, 33);
        refusedGame(3, 7, 1);
        refusedGame(3, 7, 2);
        refusedGame(3, 7, 3);
    }

    /** "none that is just 1 more than the one said right ahead" */
    private static void promise16JustOneMore() {
        for (int last = 1; last <= 9; last++) {
            dueGame("just one more", 10, 1 << last, last, 995);
            if (last <= 8) {
                dueGame("two more", 10, 1 << (last + 1), last, 1002 + last);
            }
            if (last >= 2) {
                dueGame("one less", 10, 1 << (last - 2), last, 999 + last);
            }
        }
        dueGame("behind 10 all may come", 10, 1, 10, 1001);
        // 3 may not follow 2, so 1; and 3 may follow 1
        dueGame("1 and 3 behind 2", 3, 5, 2, 998);
        // 1 first: 2 may not follow, and the other loses 5; 2 first: 1 may follow
        dueGame("1 and 2 at first", 2, 3, 0, 1006);
    }

    /** "who can say none loses 5 more, and it ends" */
    private static void promise16LosesFive() {
        dueGame("he can say none", 2, 2, 1, 995);
        dueGame("he can say none of the greatest", 10, 512, 9, 995);
        // he says 4, then 5 may not come: 4 and the other's 5
        dueGame("the other can say none", 5, 24, 0, 1009);
        // 5 behind 3 first, then 4 comes: 5 - 4; or 4 may not be said
        dueGame("4 and 5 behind 3", 5, 24, 3, 1001);
    }

    /** "(it ends without, when all are said)" */
    private static void promise16AllAreSaid() {
        for (int last = 0; last <= 4; last++) {
            dueGame("all are said", 4, 0, last, 1000);
        }
        dueGame("he says the last one", 4, 8, 0, 1004);
        dueGame("each says one: 3 - 1", 3, 5, 0, 1002);
    }

    /** What was asked ahead does not matter: one object tells all games as new ones do, up and down. */
    private static void promise16AnyOrder() {
        RopeWords up = new RopeWords();
        RopeWords down = new RopeWords();
        RopeWords apart = new RopeWords();
        for (int i = 0; i < 128; i++) {
            dueAsNew(up, i, i % 7 == 0 ? 0 : i % 7);
            dueAsNew(down, 127 - i, 0);
            dueAsNew(apart, i * 37 % 128, 7);
        }
    }

    private static void dueAsNew(RopeWords x, int set, int last) {
        int left = last == 0 ? set : set & ~(1 << (last - 1));
        Check.due("16: game(7, " + left + ", " + last + ")", x.game(7, left, last), new RopeWords().game(7, left, last));
    }

    private static RopeWords seven() {
        return Check.feast("g1 0;s1;" + "p0 1 1 1;".repeat(7) + "p1 1 1 1;");
    }

    /** "UNKNOWN (.. SIDE ..)" */
    private static void promise17Sides() {
        for (int side : new int[] {-1, 2, 3, Integer.MIN_VALUE, Integer.MAX_VALUE}) {
            Check.refused("17: order(" + side + ", 0, NONE)", UNKNOWN, Check::busy, x -> x.order(side, 0, NONE));
            Check.refused("17: unknown goes ahead of outside", UNKNOWN, Check::busy, x -> x.order(side, 41, 0));
        }
        RopeWords x = Check.feast("g1 0;s1;s2;p0 1 0 0;p1 2 0 0;");
        Check.due("17: side 0", x.order(0, 0, NONE), 1);
        Check.due("17: side 1", x.order(1, 0, NONE), 2);
        Check.due("17: the first of side 0", x.order(0, 0, 0), 0);
        Check.due("17: the first of side 1", x.order(1, 0, 0), 1);
    }

    /** "against one of LENGTH v (0 .. 40)"; "OUTSIDE (v)" */
    private static void promise17Against() {
        for (int v : new int[] {-1, 41, -2, 42, Integer.MIN_VALUE, Integer.MAX_VALUE}) {
            Check.refused("17: order(0, " + v + ", NONE)", OUTSIDE, Check::busy, x -> x.order(0, v, NONE));
            Check.refused("17: order(1, " + v + ", 0)", OUTSIDE, Check::busy, x -> x.order(1, v, 0));
            Check.refused("17: outside goes ahead of not", OUTSIDE, TriedBoundsTest::seven, x -> x.order(0, v, NONE));
        }
        RopeWords x = Check.feast("g4 0;s9;e4;p0 40 0 0;");
        int[][] due = {{0, 40}, {1, 39}, {39, 1}, {40, 0}};
        for (int[] row : due) {
            Check.due("17: 40 against " + row[0], x.order(0, row[0], NONE), row[1]);
        }
    }

    /** "i = NONE how far, else the i-th; NONE." */
    private static void promise17Places() {
        RopeWords x = Check.feast("g1 0;s1;p0 1 0 0;p1 1 0 0;p0 1 0 0;p0 1 0 0;");
        int[] row = {0, 2, 3};
        for (int i = 0; i < row.length; i++) {
            Check.due("17: order(0, 0, " + i + ")", x.order(0, 0, i), row[i]);
        }
        Check.due("17: how far", x.order(0, 0, NONE), 3);
        for (int i : new int[] {3, 4, 6, 7, 64, -2, -3, Integer.MIN_VALUE, Integer.MAX_VALUE}) {
            Check.due("17: order(0, 0, " + i + ")", x.order(0, 0, i), NONE);
        }
        Check.due("17: one of side 1", x.order(1, 0, 0), 1);
        Check.due("17: no second", x.order(1, 0, 1), NONE);
        RopeWords none = Check.feast("g1 0;s1;p1 1 0 0;");
        Check.due("17: of nobody: how far", none.order(0, 0, NONE), 0);
        Check.due("17: of nobody: the first", none.order(0, 0, 0), NONE);
    }

    /** "ORDER of all SPEAKERS of a SIDE (6 at most)"; "NOT: more than 6 of the SIDE" */
    private static void promise17SixAtMost() {
        for (int n = 1; n <= 6; n++) {
            RopeWords x = Check.feast("g1 0;s1;" + "p0 1 1 1;".repeat(n) + "p1 1 1 1;".repeat(10 - n));
            Check.due("17: " + n, x.order(0, 0, NONE), n);
            Check.due("17: the last of " + n, x.order(0, 0, n - 1), n - 1);
            Check.due("17: none behind " + n, x.order(0, 0, n), NONE);
            Check.due("17: the other side of " + (10 - n), x.order(1, 0, NONE), 10 - n > 6 ? NOT : 10 - n);
        }
        Check.refused("17: seven, how far", NOT, TriedBoundsTest::seven, x -> x.order(0, 0, NONE));
        Check.refused("17: seven, the first", NOT, TriedBoundsTest::seven, x -> x.order(0, 40, 0));
        Check.refused("17: seven, none such", NOT, TriedBoundsTest::seven, x -> x.order(0, 0, 7));
        Check.due("17: the other side of one", seven().order(1, 0, NONE), 1);
        Check.due("17: ten", Check.feast("g1 0;s1;" + "p1 1 1 1;".repeat(10)).order(1, 0, NONE), NOT);
    }

    /** "LENGTH v (0 .. 40) less i (0 at least)" */
    private static void promise17LessIButNotBelow0() {
        RopeWords x = Check.feast("g1 0;s3;" + "p0 3 0 0;".repeat(6));
        int[] due = {18, 17, 15, 12, 9, 6, 3, 1, 0, 0};
        // v 0: 3 each; v 1: 2, 3 ..; v 2: 1, 2, 3 ..; v 3: 0, 1, 2, 3, 3, 3; v 4: 0, 0, 1, 2, 3, 3 ..
        for (int v = 0; v < due.length; v++) {
            Check.due("17: six of 3 against " + v, x.order(0, v, NONE), due[v]);
        }
    }

    /** "a ROUND's pull as above (none, if he is not longer ..)" */
    private static void promise17NotLonger() {
        RopeWords x = Check.feast("g1 0;s5;p0 5 0 0;");
        Check.due("17: longer by one", x.order(0, 4, NONE), 1);
        Check.due("17: alike", x.order(0, 5, NONE), 0);
        Check.due("17: shorter by one", x.order(0, 6, NONE), 0);
        Check.due("17: shorter by far", x.order(0, 40, NONE), 0);
        RopeWords mud = Check.feast("g1 3;s5;p0 5 0 0;");
        Check.due("17: 4 less mud", mud.order(0, 1, NONE), 1);
        Check.due("17: 3 less mud", mud.order(0, 2, NONE), 0);
        Check.due("17: 2 less mud", mud.order(0, 3, NONE), 0);
        RopeWords heavy = Check.feast("g1 0;s5;p0 5 99 0;");
        Check.due("17: 5 * 19 / 10", heavy.order(0, 0, NONE), 9);
        Check.due("17: 1 * 19 / 10", heavy.order(0, 4, NONE), 1);
    }

    /** "from BREATH now"; "rests as above" */
    private static void promise17Rests() {
        RopeWords x = Check.feast("g1 0;s1;s2;s3;p0 3 0 0;p1 3 0 0;p0 1 0 0;p0 1 0 0;");
        Check.due("17: all have their breath", x.order(0, 0, NONE), 5);
        x.round(0, 30, 1, NONE);
        // 0 has none: as the first he pulls 0, as the second 1, as the third 2
        Check.due("17: he comes last", x.order(0, 0, NONE), 4);
        Check.due("17: the first", x.order(0, 0, 0), 2);
        Check.due("17: the second", x.order(0, 0, 1), 3);
        Check.due("17: the third", x.order(0, 0, 2), 0);
        x.round(2, NONE, 1, NONE);
        Check.due("17: he has 1, so 3 at last", x.order(0, 0, NONE), 5);
        x.round(2, NONE, 1, NONE);
        Check.due("17: he has 2, no more than told at last", x.order(0, 0, NONE), 5);
        Check.due("17: 2 first, for 3 is to be had behind him", x.order(0, 0, 0), 2);
        Check.due("17: he is the second of like rows", x.order(0, 0, 1), 0);
    }

    /** "of like ones the first (the lesser SPEAKER first)" */
    private static void promise17FirstOfLikeOnes() {
        RopeWords x = Check.feast("g1 0;s1;s4;p0 4 0 0;p0 1 0 0;p0 4 0 0;p0 1 0 0;");
        int[] dueAll = {0, 1, 2, 3};
        for (int i = 0; i < 4; i++) {
            Check.due("17: all rows are alike, " + i, x.order(0, 0, i), dueAll[i]);
            Check.due("17: nobody is longer, " + i, x.order(0, 40, i), dueAll[i]);
        }
        // against 4, 3, 2, 1: those of 4 pull 0, 1, 2, 3, so they come last; of like ones the lesser first
        int[] dueLast = {1, 3, 0, 2};
        for (int i = 0; i < 4; i++) {
            Check.due("17: the long ones last, " + i, x.order(0, 4, i), dueLast[i]);
        }
        Check.due("17: how far", x.order(0, 4, NONE), 5);
    }

    /** "says a LONGEST GOOD WORD that his BREATH bears (said or not; none: LENGTH 0)" */
    private static void promise17LongestOrNone() {
        RopeWords x = Check.feast("g1 0;s3;s5;p0 2 0 0;p1 9 0 0;p1 5 0 0;p1 4 0 0;");
        Check.due("17: one too few: none", x.order(0, 0, NONE), 0);
        Check.due("17: he stands in the row", x.order(0, 0, 0), 0);
        Check.due("17: 5, 5, 3", x.order(1, 0, NONE), 13);
        x.round(0, NONE, 2, 20);
        x.round(0, NONE, 1, 10);
        Check.due("17: said or not: 5, 3, and 3 by 1, then 3 of rest", x.order(1, 0, NONE), 11);
    }

    /** Six of side 1 pull by 68 each, rest, two pull once more, and all rest: the rope is at 500, all have their breath. */
    private static RopeWords ropeAtItsEnd() {
        RopeWords x = Check.feast("g4 0;s9;s9;p0 40 0 0;" + "p1 40 99 0;".repeat(6));
        int[] words = {11110, 11120, 11210, 11220, 12110, 12120, 12210, 12220};
        for (int i = 0; i < words.length; i++) {
            x.round(0, NONE, 1 + i % 6, words[i]);
            for (int rest = 0; i >= 5 && rest < 36; rest++) {
                x.round(0, NONE, 1, NONE);
            }
        }
        Check.due("the rope is at its end", x.told(6), 500);
        Check.due("2 has his breath", x.speaker(2, 2), 40);
        return x;
    }

    /** "(.. THE ROPE without end)" */
    private static void promise17RopeWithoutEnd() {
        RopeWords x = ropeAtItsEnd();
        Check.due("17: side 1 pulls all the same", x.order(1, 0, NONE), 6 * 68);
        Check.due("17: so does side 0", x.order(0, 0, NONE), 36);
    }

    /** "what = 0 which SIDE (NONE), 1 how much. OUTSIDE." */
    private static void promise18Bounds() {
        for (int what : new int[] {-1, 2, -2, 3, Integer.MIN_VALUE, Integer.MAX_VALUE}) {
            Check.refused("18: even(" + what + ")", OUTSIDE, Check::busy, x -> x.even(what));
        }
    }

    private static void dueEven(String speakers, int side, int much) {
        RopeWords x = Check.feast("g1 0;" + speakers);
        Check.due("18: even(0) of " + speakers, x.even(0), side);
        Check.due("18: even(1) of " + speakers, x.even(1), much);
    }

    /** "which SIDE is lighter (NONE: both are alike); how much" */
    private static void promise18LighterByOne() {
        dueEven("p0 1 30 0;p1 1 29 0;", 1, 1);
        dueEven("p0 1 30 0;p1 1 30 0;", NONE, 0);
        dueEven("p0 1 30 0;p1 1 31 0;", 0, 1);
        dueEven("p0 1 10 0;p0 1 20 0;p1 1 30 0;", NONE, 0);
        dueEven("", NONE, 0);
        dueEven("p0 1 0 0;", NONE, 0);
        dueEven("p0 1 1 0;", 1, 1);
        dueEven("p1 1 1 0;", 0, 1);
        dueEven("p0 1 99 0;".repeat(10), 1, 990);
        dueEven("p1 1 99 0;".repeat(10), 0, 990);
    }

    /** "UNKNOWN (a SPEAKER of the other SIDE, too)" */
    private static void promise19Speakers() {
        for (int p : new int[] {-1, 1, 3, 4, 9, 10, Integer.MIN_VALUE, Integer.MAX_VALUE}) {
            Check.refused("19: silence(" + p + ", 1)", UNKNOWN, Check::busy, x -> x.silence(p, 1));
        }
        for (int q : new int[] {-1, 0, 2, 4, 9, 10, Integer.MIN_VALUE, Integer.MAX_VALUE}) {
            Check.refused("19: silence(0, " + q + ")", UNKNOWN, Check::busy, x -> x.silence(0, q));
        }
        Check.holds("19: the last of each", Check.market().silence(2, 3) >= 0);
    }

    private static void dueSilence(String why, String text, int set) {
        Check.due("19: " + why, Check.feast(text).silence(0, 1), set);
    }

    /** "less 1, if he speaks: PAIRS at which neither does better otherwise" */
    private static void promise19ByOneMoreOrLess() {
        dueSilence("to speak pulls nothing: both silent", "g1 4;s4;p0 4 0 0;p1 4 0 0;", 1);
        dueSilence("it pulls 1: no matter", "g1 3;s4;p0 4 0 0;p1 4 0 0;", 15);
        dueSilence("it pulls 2: both speak", "g1 2;s4;p0 4 0 0;p1 4 0 0;", 8);
        // 5 against 1: he who has 1 loses as much by saying it
        dueSilence("5 against 1", "g1 0;s1;s5;p0 5 0 0;p1 1 0 0;", 2 + 8);
        dueSilence("1 against 5", "g1 0;s1;s5;p0 1 0 0;p1 5 0 0;", 4 + 8);
        dueSilence("5 against 2", "g1 0;s2;s5;p0 5 0 0;p1 2 0 0;", 8);
        dueSilence("2 against 5", "g1 0;s2;s5;p0 2 0 0;p1 5 0 0;", 8);
        dueSilence("5 against none", "g1 0;s2;s5;p0 5 0 0;p1 1 0 0;", 2);
        dueSilence("none against 5", "g1 0;s2;s5;p0 1 0 0;p1 5 0 0;", 4);
        dueSilence("1 against 1", "g1 0;s1;p0 1 0 0;p1 1 0 0;", 15);
        dueSilence("none against none", "g1 0;s2;p0 1 0 0;p1 1 0 0;", 1);
        // 2 * 19 / 10 is 3, by 1 longer it is 1
        dueSilence("by weight, 2 against 1", "g1 0;s1;s2;p0 2 99 0;p1 1 0 0;", 8);
    }

    /** "their LONGEST WORD (by BREATH now)" */
    private static void promise19BreathNow() {
        RopeWords x = Check.feast("g1 0;s1;s3;p0 3 0 0;p1 3 0 0;p1 3 0 0;");
        Check.due("19: 3 against 3", x.silence(0, 1), 8);
        x.round(0, 20, 2, NONE);
        Check.due("19: none against 3", x.silence(0, 1), 4);
        x.round(0, NONE, 2, NONE);
        Check.due("19: 1 against 3", x.silence(0, 1), 4 + 8);
        x.round(0, NONE, 2, 10);
        x.round(0, NONE, 2, NONE);
        Check.due("19: 3 against 3 again, said or not", x.silence(0, 1), 8);
        RopeWords one = Check.feast("g1 0;s1;p0 1 0 0;p1 1 0 0;");
        one.round(0, 10, 1, NONE);
        Check.due("19: none against 1", one.silence(0, 1), 1 + 4);
        RopeWords other = Check.feast("g1 0;s1;p0 1 0 0;p1 1 0 0;");
        other.round(0, NONE, 1, 10);
        Check.due("19: 1 against none", other.silence(0, 1), 1 + 2);
    }

    /** What a side pulls is the round's pull, wherever the rope is. */
    private static void promise19RopeAtItsEnd() {
        Check.due("19: 36 against 36", ropeAtItsEnd().silence(0, 2), 8);
    }

    /** "what = 0 the SET, 1 by how much. OUTSIDE." */
    private static void promise20Bounds() {
        for (int what : new int[] {-1, 2, -2, 3, Integer.MIN_VALUE, Integer.MAX_VALUE}) {
            Check.refused("20: pick(" + what + ")", OUTSIDE, Check::busy, x -> x.pick(what));
        }
        Check.due("20: outside on a new object", new RopeWords().pick(2), OUTSIDE);
    }

    private static void duePick(int[] weights, int set, int much) {
        StringBuilder text = new StringBuilder("g1 0;");
        StringBuilder all = new StringBuilder();
        for (int i = 0; i < weights.length; i++) {
            text.append('p').append(i % 3 == 0 ? 1 : 0).append(" 1 ").append(weights[i]).append(" 0;");
            all.append(' ').append(weights[i]);
        }
        RopeWords x = Check.feast(text.toString());
        Check.due("20: pick(0) of" + all, x.pick(0), set);
        Check.due("20: pick(1) of" + all, x.pick(1), much);
    }

    /** "all SPEAKERS into two halves (SIDE 0 has as many as the other one, or one more ..)" */
    private static void promise20Halves() {
        duePick(new int[] {}, 0, 0);
        duePick(new int[] {40}, 0b1, 40);
        duePick(new int[] {40, 10}, 0b1, 30);
        duePick(new int[] {99, 1, 1}, 0b110, 97);
        duePick(new int[] {10, 10, 30}, 0b11, 10);
        duePick(new int[] {60, 30, 30}, 0b110, 0);
        duePick(new int[] {30, 10, 10, 10}, 0b11, 20);
        duePick(new int[] {1, 2, 3, 4}, 0b110, 0);
        duePick(new int[] {50, 10, 10, 10, 10}, 0b1110, 30);
        duePick(new int[] {0, 99}, 0b1, 99);
    }

    /** "by which WEIGHTS differ least; of like ones the least SET for SIDE 0" */
    private static void promise20LeastOfLikeOnes() {
        duePick(new int[] {10, 40}, 0b1, 30);
        duePick(new int[] {7, 7}, 0b1, 0);
        duePick(new int[] {7, 7, 7}, 0b11, 7);
        duePick(new int[] {7, 7, 7, 7}, 0b11, 0);
        duePick(new int[] {0, 0, 0, 0, 0}, 0b111, 0);
        duePick(new int[] {10, 20, 20, 10}, 0b11, 0);
        duePick(new int[] {10, 10, 20, 20}, 0b101, 0);
        duePick(new int[] {10, 10, 20, 21}, 0b101, 1);
        duePick(new int[] {10, 11, 20, 20}, 0b101, 1);
        duePick(new int[] {11, 10, 20, 20}, 0b101, 1);
    }

    /** "10 at most" */
    private static void promise20TenAtMost() {
        duePick(new int[] {7, 7, 7, 7, 7, 7, 7, 7, 7, 7}, 0b11111, 0);
        duePick(new int[] {7, 7, 7, 7, 7, 7, 7, 7, 7}, 0b11111, 7);
        duePick(new int[] {0, 0, 0, 0, 0, 0, 0, 0, 0, 99}, 0b11111, 99);
        duePick(new int[] {9, 9, 9, 9, 9, 0, 0, 0, 0, 45}, 0b11111, 0);
    }

    /** "UNKNOWN (.. bits of such)" */
    private static void promise21Sets() {
        for (int set : new int[] {16, 17, 31, 32, 1024, 1 << 30, -1, -16, Integer.MIN_VALUE, Integer.MAX_VALUE}) {
            Check.refused("21: coughs(" + set + ")", UNKNOWN, Check::busy, x -> x.coughs(set));
        }
        for (int n = 0; n <= 10; n++) {
            RopeWords x = Check.feast("g1 0;" + "p0 1 0 0;".repeat(n));
            Check.due("21: nobody of " + n, x.coughs(0), BILLION);
            Check.due("21: all of " + n, x.coughs((1 << n) - 1), BILLION);
            Check.due("21: one more than " + n, x.coughs(1 << n), UNKNOWN);
            Check.due("21: all and one more than " + n, x.coughs((2 << n) - 1), UNKNOWN);
        }
    }

    /** "a BILLION times (100 less C) / 100 each (cut)" */
    private static void promise21Odds() {
        RopeWords x = Check.feast("g1 0;p0 1 0 0;p1 1 0 1;p0 1 0 99;p1 1 0 100;p0 1 0 50;");
        int[][] due = {{0, BILLION}, {0b1, BILLION}, {0b10, 990000000}, {0b100, 10000000}, {0b1000, 0}, {0b10000, 500000000},
            {0b10010, 495000000}, {0b110, 9900000}, {0b1111, 0}, {0b11111, 0}, {0b10111, 4950000}};
        for (int[] row : due) {
            Check.due("21: coughs(" + row[0] + ")", x.coughs(row[0]), row[1]);
        }
        RopeWords ones = Check.feast("g1 0;" + "p0 1 0 1;".repeat(10));
        int[] cut = {BILLION, 990000000, 980100000, 970299000, 960596010, 950990049, 941480148, 932065346, 922744692, 913517245, 904382072};
        for (int n = 0; n <= 10; n++) {
            Check.due("21: cut at each of " + n, ones.coughs((1 << n) - 1), cut[n]);
        }
        RopeWords rare = Check.feast("g1 0;" + "p0 1 0 99;".repeat(10));
        int[] hundredths = {BILLION, 10000000, 100000, 1000, 10, 0, 0, 0, 0, 0, 0};
        for (int n = 0; n <= 10; n++) {
            Check.due("21: hundredths, " + n, rare.coughs((1 << n) - 1), hundredths[n]);
        }
    }

    /** "NONE: no SPEAKERS. UNKNOWN." */
    private static void promise22Sides() {
        for (int side : new int[] {-1, 2, -2, 3, Integer.MIN_VALUE, Integer.MAX_VALUE}) {
            Check.refused("22: keepBack(" + side + ")", UNKNOWN, Check::busy, x -> x.keepBack(side));
        }
        RopeWords x = Check.feast("g1 0;p1 1 0 0;");
        Check.due("22: nobody of side 0", x.keepBack(0), NONE);
        Check.due("22: one of side 1", x.keepBack(1), 0);
        Check.due("22: unknown on a new object", new RopeWords().keepBack(2), UNKNOWN);
    }

    private static void dueKeepBack(String speakers, int side, int due) {
        Check.due("22: keepBack(" + side + ") of " + speakers, Check.feast("g1 0;" + speakers).keepBack(side), due);
    }

    /** "for whom WEIGHT times (100 less C) is least; of like ones the least" */
    private static void promise22LeastOfLikeOnes() {
        dueKeepBack("p0 1 50 0;p0 1 50 0;", 0, 0);
        dueKeepBack("p0 1 50 0;p0 1 49 0;", 0, 1);
        dueKeepBack("p0 1 50 0;p0 1 51 0;", 0, 0);
        dueKeepBack("p0 1 50 0;p0 1 50 1;", 0, 1);
        dueKeepBack("p0 1 50 20;p0 1 40 0;p0 1 80 50;", 0, 0);
        dueKeepBack("p0 1 99 99;p0 1 1 0;p0 1 1 1;", 0, 0);
        dueKeepBack("p0 1 1 0;p0 1 60 97;", 0, 0);
        dueKeepBack("p0 1 2 0;p0 1 60 97;", 0, 1);
        dueKeepBack("p0 1 99 100;p0 1 0 0;", 0, 0);
        dueKeepBack("p0 1 1 0;p0 1 99 100;p0 1 0 0;", 0, 1);
        dueKeepBack("p1 1 0 0;p0 1 99 0;p1 1 0 0;p0 1 98 0;", 0, 3);
        dueKeepBack("p1 1 5 0;p0 1 0 0;p1 1 4 0;p0 1 0 0;", 1, 2);
        dueKeepBack("p1 1 99 0;".repeat(10), 1, 0);
        dueKeepBack("p1 1 99 0;".repeat(9) + "p1 1 98 0;", 1, 9);
    }
}
