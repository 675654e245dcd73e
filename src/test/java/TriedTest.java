/** Promises 14 to 22: what is tried; nothing changes by it. */
public final class TriedTest {
    private static final int NONE = RopeWords.NONE;
    private static final int UNKNOWN = RopeWords.UNKNOWN;
    private static final int OUTSIDE = RopeWords.OUTSIDE;

    public static void main(String[] args) {
        promise14Longest();
        promise15HowMany();
        promise16Game();
        promise16Refusals();
        promise17Order();
        promise17Rests();
        promise17Refusals();
        promise18Even();
        promise19Silence();
        promise20Pick();
        promise21Coughs();
        promise22KeepBack();
        Check.end();
    }

    private static void promise14Longest() {
        RopeWords x = Check.market();
        int[][] due = {{0, NONE, NONE}, {1, NONE, NONE}, {2, 2, 30}, {3, 3, 10}, {4, 4, 11}, {5, 5, 20}, {9, 9, 22},
            {12, 12, 122}, {13, 12, 122}, {41, 12, 122}, {42, 12, 122}, {99, 12, 122}};
        for (int[] row : due) {
            Check.due("14: longest(" + row[0] + ", 0)", x.longest(row[0], 0), row[1]);
            Check.due("14: longest(" + row[0] + ", 1)", x.longest(row[0], 1), row[2]);
        }
        x.round(2, 122, 1, NONE);
        Check.due("14: said or not", x.longest(12, 1), 122);
        Check.due("14: longest(-1, 0)", x.longest(-1, 0), OUTSIDE);
        Check.due("14: longest(100, 0)", x.longest(100, 0), OUTSIDE);
        Check.due("14: longest(5, 2)", x.longest(5, 2), OUTSIDE);
        Check.due("14: longest(5, -1)", x.longest(5, -1), OUTSIDE);
        RopeWords bars = Check.feast("g2 0;s4;s4;n0 0;n0 1;");
        Check.due("14: the least that is good", bars.longest(8, 1), 210);
        Check.due("14: its length", bars.longest(8, 0), 8);
        RopeWords shorter = Check.feast("g2 0;s1;s2;e1;e2;");
        Check.due("14: fewer stems is the lesser number", shorter.longest(3, 1), 12);
    }

    private static void promise15HowMany() {
        RopeWords x = Check.feast("g2 0;s1;s2;e1;n1 1;");
        int[] due = {0, 1, 3, 4, 2, 0};
        // 1: 10; 2: 20, 11, 110; 3: 21, 111, 120, 210; 4: 121, 211; 220 and 221 are barred
        for (int l = 0; l < due.length; l++) {
            Check.due("15: howMany(" + l + ")", x.howMany(l), due[l]);
        }
        x.round(0, 10, 1, NONE);
        Check.due("15: howMany(99)", x.howMany(99), 0);
        Check.due("15: howMany(41)", x.howMany(41), 0);
        Check.due("15: howMany(42)", x.howMany(42), 0);
        Check.due("15: howMany(100)", x.howMany(100), OUTSIDE);
        Check.due("15: howMany(-1)", x.howMany(-1), OUTSIDE);
    }

    private static void promise16Game() {
        RopeWords x = new RopeWords();
        Check.due("16: all are said, none last", x.game(1, 0, 0), 1000);
        Check.due("16: all are said", x.game(2, 0, 2), 1000);
        Check.due("16: just one", x.game(1, 1, 0), 1001);
        Check.due("16: 1, and 2 may not follow", x.game(2, 3, 0), 1006);
        Check.due("16: 2 may not follow 1", x.game(3, 2, 1), 995);
        Check.due("16: 2 may follow 3", x.game(3, 2, 3), 1002);
        Check.due("16: at first all may be said", x.game(10, 1, 0), 1001);
        // 3 alone may follow 1: then 2; or nothing: 3 - 2
        Check.due("16: 2 and 3 behind 1", x.game(3, 6, 1), 1001);
        // 1 alone may follow 2, and 3 may follow 1: 1 - 3
        Check.due("16: 1 and 3 behind 2", x.game(3, 5, 2), 998);
        Check.due("16: a lesser set behind a greater one", x.game(10, 1023, 0), 1007);
        Check.due("16: the same again", x.game(2, 3, 0), 1006);
        Check.due("16: does not hang on n", x.game(10, 3, 0), 1006);
    }

    private static void promise16Refusals() {
        RopeWords x = new RopeWords();
        int[][] wrong = {{0, 0, 0}, {11, 1, 0}, {-1, 0, 0}, {3, 8, 0}, {3, -1, 0}, {3, 1, 1}, {3, 4, 3}, {3, 0, 4},
            {3, 0, -1}, {10, 1024, 0}, {10, 512, 10}, {10, Integer.MIN_VALUE, 0}, {10, 1, Integer.MAX_VALUE},
            {33, 1, 0}, {3, 1, 33}};
        for (int[] row : wrong) {
            String call = "16: game(" + row[0] + ", " + row[1] + ", " + row[2] + ")";
            Check.due(call, x.game(row[0], row[1], row[2]), OUTSIDE);
        }
    }

    private static void promise17Order() {
        RopeWords x = Check.market();
        Check.due("17: how far", x.order(0, 5, NONE), 12);
        Check.due("17: the first", x.order(0, 5, 0), 0);
        Check.due("17: the second", x.order(0, 5, 1), 2);
        Check.due("17: no third", x.order(0, 5, 2), NONE);
        Check.due("17: -2", x.order(0, 5, -2), NONE);
        Check.due("17: nobody is longer", x.order(1, 40, NONE), 0);
        Check.due("17: of like ones the first", x.order(1, 40, 0), 1);
        Check.due("17: of like ones the second", x.order(1, 40, 1), 3);
        RopeWords none = Check.feast("g1 0;s1;p1 1 1 1;");
        Check.due("17: a side of nobody", none.order(0, 0, NONE), 0);
        Check.due("17: nobody is first", none.order(0, 0, 0), NONE);
        // 4 against 4 pulls nothing, against 3 it pulls: so the heavy one waits
        RopeWords waits = Check.feast("g1 0;s4;p0 4 90 0;p0 4 0 0;");
        Check.due("17: how far", waits.order(0, 4, NONE), 1);
        Check.due("17: like by the cut, so 0 first", waits.order(0, 4, 0), 0);
        Check.due("17: 4 against 3, then 2", waits.order(0, 3, NONE), 4);
        Check.due("17: the heavy one is last", waits.order(0, 3, 1), 0);
    }

    private static void promise17Rests() {
        RopeWords x = Check.market();
        x.round(0, 20, 1, NONE);
        // 0 has 4 now, and 5 when he has rested: 5 * 15 / 10 - 1 is 6, with 11 of the other
        Check.due("17: how far, rested", x.order(0, 0, NONE), 17);
        Check.due("17: the first", x.order(0, 0, 0), 2);
        Check.due("17: the second", x.order(0, 0, 1), 0);
        Check.due("17: nothing changed", x.speaker(0, 2), 4);
        RopeWords full = Check.feast("g2 0;s1;s2;p0 2 0 0;p0 2 0 0;");
        Check.due("17: no more breath than told", full.order(0, 0, NONE), 4);
    }

    private static void promise17Refusals() {
        String six = "p0 1 1 1;p0 1 1 1;p0 1 1 1;p0 1 1 1;p0 1 1 1;p0 1 1 1;";
        RopeWords x = Check.feast("g1 0;s1;" + six + "p1 1 1 1;");
        Check.due("17: six", x.order(0, 0, NONE), 6);
        Check.due("17: six, the last", x.order(0, 0, 5), 5);
        Check.due("17: six, no seventh", x.order(0, 0, 6), NONE);
        RopeWords seven = Check.feast("g1 0;s1;" + six + "p0 1 1 1;p1 1 1 1;");
        Check.due("17: seven", seven.order(0, 0, NONE), RopeWords.NOT);
        Check.due("17: the other side", seven.order(1, 0, NONE), 1);
        Check.due("17: outside goes ahead of not", seven.order(0, 41, 0), OUTSIDE);
        Check.due("17: v of -1", x.order(0, -1, 0), OUTSIDE);
        Check.due("17: v of 40", x.order(0, 40, NONE), 0);
        Check.due("17: side 2", x.order(2, 41, 0), UNKNOWN);
        Check.due("17: side -1", x.order(-1, 0, 0), UNKNOWN);
    }

    private static void promise18Even() {
        RopeWords x = Check.market();
        Check.due("18: the lighter", x.even(0), 0);
        Check.due("18: by", x.even(1), 60);
        Check.due("18: even(2)", x.even(2), OUTSIDE);
        Check.due("18: even(-1)", x.even(-1), OUTSIDE);
        RopeWords alike = Check.feast("g1 0;p0 1 30 0;p1 1 10 0;p1 1 20 0;");
        Check.due("18: alike", alike.even(0), NONE);
        Check.due("18: by nothing", alike.even(1), 0);
        RopeWords one = Check.feast("g1 0;p0 1 30 0;");
        Check.due("18: nobody is lighter", one.even(0), 1);
        Check.due("18: by 30", one.even(1), 30);
    }

    private static void promise19Silence() {
        Check.due("19: mud: both silent", Check.feast("g1 9;s1;p0 5 0 0;p1 5 0 0;").silence(0, 1), 1);
        Check.due("19: all alike", Check.feast("g1 0;s1;p0 5 0 0;p1 5 0 0;").silence(0, 1), 15);
        Check.due("19: both speak", Check.feast("g1 0;s9;p0 9 0 0;p1 9 0 0;").silence(0, 1), 8);
        Check.due("19: 0 speaks alone", Check.feast("g1 0;s9;p0 9 0 0;p1 8 0 0;").silence(0, 1), 2);
        Check.due("19: 1 speaks alone", Check.feast("g1 0;s9;p0 8 0 0;p1 9 0 0;").silence(0, 1), 4);
        Check.due("19: no words at all", Check.feast("g1 0;p0 8 0 0;p1 9 0 0;").silence(0, 1), 1);
        RopeWords x = Check.market();
        Check.due("19: at first", x.silence(0, 1), 8);
        x.round(0, 120, 1, NONE);
        Check.due("19: by breath now", x.silence(0, 1), 4);
        Check.due("19: p of side 1", x.silence(1, 3), UNKNOWN);
        Check.due("19: q of side 0", x.silence(0, 2), UNKNOWN);
        Check.due("19: no p", x.silence(-1, 1), UNKNOWN);
        Check.due("19: no q", x.silence(0, 4), UNKNOWN);
    }

    private static void promise20Pick() {
        RopeWords x = Check.market();
        Check.due("20: the set", x.pick(0), 3);
        Check.due("20: by", x.pick(1), 20);
        Check.due("20: pick(2)", x.pick(2), OUTSIDE);
        Check.due("20: pick(-1)", x.pick(-1), OUTSIDE);
        RopeWords one = Check.feast("g1 0;p1 1 30 0;");
        Check.due("20: one more for side 0", one.pick(0), 1);
        Check.due("20: by 30", one.pick(1), 30);
        RopeWords three = Check.feast("g1 0;p1 1 30 0;p1 1 10 0;p1 1 20 0;");
        Check.due("20: 10 and 20 against 30", three.pick(0), 6);
        Check.due("20: by 0", three.pick(1), 0);
        StringBuilder ten = new StringBuilder("g1 0;");
        for (int i = 0; i < 10; i++) {
            ten.append("p0 1 ").append(i == 9 ? 99 : i).append(" 0;");
        }
        RopeWords all = Check.feast(ten.toString());
        Check.due("20: the lightest with the heaviest", all.pick(0), 0b0111110000);
        Check.due("20: by", all.pick(1), 99 + 0 + 1 + 2 + 3 - 4 - 5 - 6 - 7 - 8 + 0);
    }

    private static void promise21Coughs() {
        RopeWords x = Check.market();
        Check.due("21: nobody", x.coughs(0), 1000000000);
        Check.due("21: 0 and 2", x.coughs(5), 450000000);
        Check.due("21: all", x.coughs(15), 427500000);
        Check.due("21: a fifth", x.coughs(16), UNKNOWN);
        Check.due("21: a fifth too", x.coughs(31), UNKNOWN);
        Check.due("21: below 0", x.coughs(-1), UNKNOWN);
        Check.due("21: the sign alone", x.coughs(Integer.MIN_VALUE), UNKNOWN);
        StringBuilder ten = new StringBuilder("g1 0;");
        for (int i = 0; i < 10; i++) {
            ten.append("p0 1 0 ").append(i == 9 ? 100 : 1).append(';');
        }
        RopeWords many = Check.feast(ten.toString());
        Check.due("21: cut at the fifth", many.coughs(31), 950990049);
        Check.due("21: cut at each", many.coughs(63), 941480148);
        Check.due("21: one who always coughs", many.coughs(1023), 0);
        Check.due("21: an eleventh", many.coughs(1024), UNKNOWN);
    }

    private static void promise22KeepBack() {
        RopeWords x = Check.market();
        Check.due("22: side 0", x.keepBack(0), 2);
        Check.due("22: side 1", x.keepBack(1), 1);
        Check.due("22: side 2", x.keepBack(2), UNKNOWN);
        Check.due("22: side -1", x.keepBack(-1), UNKNOWN);
        RopeWords y = Check.feast("g1 0;p1 1 99 0;p1 1 80 50;p1 1 40 0;p1 1 50 20;");
        Check.due("22: no speakers", y.keepBack(0), NONE);
        Check.due("22: of like ones the least", y.keepBack(1), 1);
    }
}
