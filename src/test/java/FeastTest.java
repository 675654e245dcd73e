/** Promises 1 to 10: the feast. */
public final class FeastTest {
    private static final int NONE = RopeWords.NONE;
    private static final int UNKNOWN = RopeWords.UNKNOWN;
    private static final int OUTSIDE = RopeWords.OUTSIDE;

    public static void main(String[] args) {
        promise1NewObject();
        promise2Feed();
        promise3Feast();
        promise3FeastClearsAll();
        promise3NothingOfFeastsAhead();
        promise3NoWordsOfFeastsAhead();
        promise3FaultLeavesAll();
        promise4Fault();
        promise4Places();
        promise4TooMany();
        promise4Twice();
        promise5Told();
        promise6Stem();
        promise7Ending();
        promise8Speaker();
        promise9Length();
        promise10Said();
        Check.end();
    }

    private static void promise1NewObject() {
        RopeWords x = new RopeWords();
        for (int what = 0; what <= 11; what++) {
            Check.due("1: told(" + what + ")", x.told(what), 0);
        }
        Check.due("1: fault()", x.fault(), NONE);
        Check.due("1: stem(0)", x.stem(0), UNKNOWN);
        Check.due("1: length(10)", x.length(10), NONE);
        Check.due("1: seed(0)", x.seed(0), 0);
        Check.due("1: round", x.round(0, NONE, 1, NONE), UNKNOWN);
        Check.due("1: goBack(0)", x.goBack(0), RopeWords.NOT);
    }

    private static void promise2Feed() {
        RopeWords x = new RopeWords();
        Check.due("2: feed(-1)", x.feed(-1), OUTSIDE);
        Check.due("2: feed(256)", x.feed(256), OUTSIDE);
        Check.due("2: feed(0)", x.feed(0), 1);
        Check.due("2: feed(255)", x.feed(255), 2);
        for (int i = 3; i <= 250; i++) {
            Check.due("2: feed(32)", x.feed(32), i);
        }
        Check.due("2: feed(32) of 251", x.feed(32), RopeWords.FULL);
        Check.due("2: feed(300) of 251", x.feed(300), OUTSIDE);
        Check.due("2: told(5)", x.told(5), 250);
        Check.due("2: feast()", x.feast(), -11);
        Check.due("2: feed(32) behind feast", x.feed(32), 1);
    }

    private static void promise3Feast() {
        RopeWords x = Check.market();
        Check.due("3: letters", x.told(5), 0);
        Check.due("3: empty text", x.feast(), 0);
        Check.due("3: K of an empty text", x.told(0), 0);
        Check.due("3: mud of an empty text", x.told(1), 0);
        Check.due("3: stems of an empty text", x.told(2), 0);
        Check.due("3: endings of an empty text", x.told(3), 0);
        Check.due("3: longest of an empty text", x.longest(99, 0), NONE);
        Check.due("3: howMany of an empty text", x.howMany(3), 0);
        Check.feed(x, "  g 3 9 ; s 1;p 1 40 99 100;   ");
        Check.due("3: feast() with blanks", x.feast(), 1);
        Check.due("3: bars are gone", x.length(1110), 3);
        Check.due("3: endings are gone", x.length(11), NONE);
        Check.feed(x, "g004 009;s009;e005;p001 040 099 100;p000 001 000 000;s1;n000 001;");
        Check.due("3: feast() with noughts ahead", x.feast(), 2);
        Check.due("3: longest", x.longest(99, 0), 41);
        Check.due("3: barred", x.length(120), NONE);
        Check.due("3: not barred the other way", x.length(210), 10);
    }

    private static void promise3FeastClearsAll() {
        RopeWords x = Check.market();
        x.seed(77);
        x.round(0, 110, 1, 30);
        x.mark(3);
        x.write(1, 4);
        x.keep(0);
        x.keep(1);
        x.round(0, NONE, 1, 20);
        Check.feed(x, Check.MARKET);
        Check.due("3: feast()", x.feast(), 4);
        for (int what = 5; what <= 11; what++) {
            Check.due("3: told(" + what + ") behind a new feast", x.told(what), 0);
        }
        Check.due("3: breath", x.speaker(0, 2), 9);
        Check.due("3: goBack(0)", x.goBack(0), RopeWords.NOT);
        Check.due("3: goBack(1)", x.goBack(1), RopeWords.NOT);
        Check.due("3: undo()", x.undo(), RopeWords.NOT);
        Check.due("3: a word may come again", x.round(0, 110, 1, 30), -5);
        Check.due("3: the seed stays", x.seed(1), 77);
    }

    /** Nine feasts, within 512 calls, for the object may use again what it read earlier ones into. */
    private static void promise3NothingOfFeastsAhead() {
        RopeWords x = new RopeWords();
        String great = "g4 9;s1;s2;s3;s4;s5;s9;e1;e2;e3;e5;n0 0;n0 1;n1 0;n1 1;n5 5;n4 4;p1 40 99 100;p1 40 99 100;";
        for (int i = 0; i < 3; i++) {
            Check.feed(x, great);
            Check.due("3: the great feast", x.feast(), 2);
            x.round(0, NONE, 1, NONE);
            Check.due("3: longest of it", x.longest(99, 0), 33);
            Check.due("3: nobody of side 0", x.keepBack(0), NONE);
            Check.feed(x, "g1 0;s2;s3;n0 0;p0 4 0 0;p1 4 0 0;");
            Check.due("3: the small feast", x.feast(), 2);
            Check.due("3: mud", x.told(1), 0);
            Check.due("3: stems", x.told(2), 2);
            Check.due("3: endings", x.told(3), 0);
            Check.due("3: a third stem", x.length(30), NONE);
            Check.due("3: two stems", x.length(110), NONE);
            Check.due("3: how many of 1", x.howMany(1), 0);
            Check.due("3: how many of 2", x.howMany(2), 1);
            Check.due("3: longest", x.longest(99, 0), 3);
            Check.due("3: the word", x.longest(2, 1), 10);
            Check.due("3: no longer than 2", x.longest(1, 1), NONE);
            Check.due("3: pull without mud", x.round(0, 20, 1, NONE), -3);
            Check.due("3: rounds", x.told(7), 1);
            Check.due("3: no third speaker", x.speaker(2, 0), UNKNOWN);
            Check.due("3: odds", x.coughs(3), 1000000000);
            Check.feed(x, "g4 0;s1;s2;n1 0;");
            Check.due("3: without speakers", x.feast(), 0);
            Check.due("3: the rope is at 0", x.told(6), 0);
            Check.due("3: earlier bars", x.length(11120), 5);
            Check.due("3: its bar", x.length(210), NONE);
        }
    }

    /** A lesser word of an earlier grammar, as long as one of this, is no word of this one. */
    private static void promise3NoWordsOfFeastsAhead() {
        for (int between = 0; between <= 2; between++) {
            RopeWords x = new RopeWords();
            Check.feed(x, "g2 0;s3;");
            x.feast();
            Check.due("3: 10 of 3", x.longest(3, 1), 10);
            Check.due("3: 110 of 6", x.longest(6, 1), 110);
            for (int i = 0; i < between; i++) {
                Check.feed(x, "g1 0;s1;");
                x.feast();
                Check.due("3: 10 of 1", x.longest(6, 1), 10);
            }
            Check.feed(x, "g2 0;s9;s3;");
            x.feast();
            Check.due("3: 20 of 3 behind " + between + " between", x.longest(3, 1), 20);
            Check.due("3: 220 of 6 behind " + between + " between", x.longest(6, 1), 220);
            Check.due("3: how many of 6", x.howMany(6), 1);
        }
    }

    private static void promise3FaultLeavesAll() {
        RopeWords x = Check.market();
        x.round(0, 110, 1, 30);
        x.mark(3);
        x.write(1, 4);
        x.keep(1);
        x.round(2, NONE, 1, 20);
        Check.feed(x, "g4 9;s9;s9;e5;p0 1 1 1;n0 0;p0 1 1 101;");
        Check.due("3: feast() with a fault", x.feast(), -12);
        int[] dueTold = {2, 1, 3, 2, 4, 0, 0, 2, 3, 1, 1, 1};
        for (int what = 0; what <= 11; what++) {
            Check.due("3: told(" + what + ") behind a fault", x.told(what), dueTold[what]);
        }
        Check.due("3: length(110) behind a fault", x.length(110), 6);
        Check.due("3: length(220) behind a fault", x.length(220), NONE);
        Check.due("3: howMany(8) behind a fault", x.howMany(8), 5);
        Check.due("3: undo() behind a fault", x.undo(), 0);
        Check.due("3: goBack(1) behind a fault", x.goBack(1), 1);
    }

    private static void promise4Fault() {
        RopeWords x = Check.market();
        Check.due("4: fault() of a good text", x.fault(), NONE);
        Check.feed(x, "g1 0;x");
        Check.due("4: feast()", x.feast(), -11);
        Check.due("4: fault()", x.fault(), 5);
        Check.due("4: fault() again", x.fault(), 5);
        Check.feed(x, "g");
        Check.due("4: fault() while a text is fed", x.fault(), 5);
        Check.due("4: feast()", x.feast(), -11);
        Check.due("4: fault() at the end", x.fault(), 1);
        Check.due("4: feast() of nothing", x.feast(), 0);
        Check.due("4: fault() of nothing", x.fault(), NONE);
    }

    private static void promise4Places() {
        Check.dueFault("", 0, NONE);
        Check.dueFault("   ", 0, NONE);
        Check.dueFault("s1;", 1, 0);
        Check.dueFault("  s1;", 1, 2);
        Check.dueFault(";", 1, 0);
        Check.dueFault("1", 1, 0);
        Check.dueFault("1234", 1, 0);
        Check.dueFault("G1 0;", 1, 0);
        Check.dueFault("g", 1, 1);
        Check.dueFault("g ", 1, 2);
        Check.dueFault("g;", 1, 1);
        Check.dueFault("gg", 1, 1);
        Check.dueFault("g1", 1, 2);
        Check.dueFault("g1;", 1, 2);
        Check.dueFault("g1 0", 1, 4);
        Check.dueFault("g1 0  ", 1, 6);
        Check.dueFault("g1 0 ; ", 0, NONE);
        Check.dueFault("g1 0;;", 1, 5);
        Check.dueFault("g1 0 5;", 1, 5);
        Check.dueFault("g1 0 5555;", 1, 5);
        Check.dueFault("g1 0g", 1, 4);
        Check.dueFault("g1\t0;", 1, 2);
        Check.dueFault("g1 0;s-1;", 1, 6);
        Check.dueFault("g1 0;\u00a0", 1, 5);
        Check.dueFault("g0 0;", 2, 1);
        Check.dueFault("g5", 2, 1);
        Check.dueFault("g5x", 2, 1);
        Check.dueFault("g10;", 2, 1);
        Check.dueFault("g  5 0;", 2, 3);
        Check.dueFault("g0001 0;", 2, 1);
        Check.dueFault("g001 000;", 0, NONE);
        Check.dueFault("g1 10;", 2, 3);
        Check.dueFault("g1 0;s0;", 2, 6);
        Check.dueFault("g1 0;s9;", 0, NONE);
        Check.dueFault("g1 0;s10;", 2, 6);
        Check.dueFault("g1 0;s99999999999999999999;", 2, 6);
        Check.dueFault("g1 0;s4294967297;", 2, 6);
        Check.dueFault("g1 0;e0;", 2, 6);
        Check.dueFault("g1 0;e5;", 0, NONE);
        Check.dueFault("g1 0;e6;", 2, 6);
        Check.dueFault("g1 0;p1 40 99 100;", 0, NONE);
        Check.dueFault("g1 0;p0 1 0 0;", 0, NONE);
        Check.dueFault("g1 0;p2 1 0 0;", 2, 6);
        Check.dueFault("g1 0;p0 0 0 0;", 2, 8);
        Check.dueFault("g1 0;p0 41 0 0;", 2, 8);
        Check.dueFault("g1 0;p0 40 100 0;", 2, 11);
        Check.dueFault("g1 0;p0 40 99 101;", 2, 14);
        Check.dueFault("g1 0;p0 40 99;", 1, 13);
        Check.dueFault("g1 0;n0 0;", 2, 6);
        Check.dueFault("g1 0;s1;n0 1;", 2, 11);
        Check.dueFault("g1 0;s1;n1 0;", 2, 9);
        Check.dueFault("g1 0;n0 0;s1;", 2, 6);
    }

    private static void promise4TooMany() {
        String stems = "g1 0;s1;s1;s1;s1;s1;s1;";
        Check.dueFault(stems, 0, NONE);
        Check.dueFault(stems + " s", 3, 24);
        Check.dueFault(stems + "s77;", 3, 23);
        String endings = "g1 0;e1;e1;e1;e1;";
        Check.dueFault(endings, 0, NONE);
        Check.dueFault(endings + "e", 3, 17);
        StringBuilder speakers = new StringBuilder("g1 0;");
        for (int i = 0; i < 10; i++) {
            speakers.append("p1 1 1 1;");
        }
        Check.dueFault(speakers.toString(), 0, NONE);
        Check.dueFault(speakers + "p", 3, 95);
        String bars = stems + "n0 0;n0 1;n0 2;n1 0;n2 0;n5 5;";
        Check.dueFault(bars, 0, NONE);
        Check.dueFault(bars + "n0 0;", 3, 53);
        Check.dueFault("g1 0;g", 3, 5);
        Check.dueFault("g1 0; g1 0;", 3, 6);
        Check.dueFault("g1 0;s1;g", 3, 8);
    }

    private static void promise4Twice() {
        Check.dueFault("g1 0;s1;s1;n0 1;n1 0;", 0, NONE);
        Check.dueFault("g1 0;s1;s1;n0 1;n0 1;", 4, 19);
        Check.dueFault("g1 0;s1;s1;n0 1;n000  001x", 4, 22);
        Check.dueFault("g1 0;s1;s1;n0 1;n1 0;n1 1;n0 0;n1 0", 4, 34);
    }

    private static void promise5Told() {
        RopeWords x = Check.market();
        Check.feed(x, "g1");
        x.round(0, 110, 1, 30);
        x.mark(1);
        x.mark(2);
        x.write(5, 5);
        int[] dueTold = {2, 1, 3, 2, 4, 2, -5, 1, 2, 2, 1, 1};
        for (int what = 0; what <= 11; what++) {
            Check.due("5: told(" + what + ")", x.told(what), dueTold[what]);
        }
        Check.due("5: told(-1)", x.told(-1), OUTSIDE);
        Check.due("5: told(12)", x.told(12), OUTSIDE);
    }

    private static void promise6Stem() {
        RopeWords x = Check.market();
        Check.due("6: stem(0)", x.stem(0), 3);
        Check.due("6: stem(2)", x.stem(2), 2);
        Check.due("6: stem(3)", x.stem(3), UNKNOWN);
        Check.due("6: stem(-1)", x.stem(-1), UNKNOWN);
        Check.due("6: stem(7)", x.stem(7), UNKNOWN);
    }

    private static void promise7Ending() {
        RopeWords x = Check.market();
        Check.due("7: ending(0)", x.ending(0), 1);
        Check.due("7: ending(1)", x.ending(1), 4);
        Check.due("7: ending(2)", x.ending(2), UNKNOWN);
        Check.due("7: ending(-1)", x.ending(-1), UNKNOWN);
        Check.due("7: ending(5)", x.ending(5), UNKNOWN);
    }

    private static void promise8Speaker() {
        RopeWords x = Check.market();
        int[][] all = {{0, 9, 9, 50, 10}, {1, 12, 12, 20, 0}, {0, 20, 20, 0, 50}, {1, 6, 6, 90, 5}};
        for (int p = 0; p < 4; p++) {
            for (int what = 0; what < 5; what++) {
                Check.due("8: speaker(" + p + ", " + what + ")", x.speaker(p, what), all[p][what]);
            }
        }
        x.round(0, 20, 3, NONE);
        Check.due("8: breath as told", x.speaker(0, 1), 9);
        Check.due("8: breath now", x.speaker(0, 2), 4);
        Check.due("8: speaker(4, 0)", x.speaker(4, 0), UNKNOWN);
        Check.due("8: speaker(-1, 9)", x.speaker(-1, 9), UNKNOWN);
        Check.due("8: speaker(0, 5)", x.speaker(0, 5), OUTSIDE);
        Check.due("8: speaker(0, -1)", x.speaker(0, -1), OUTSIDE);
    }

    private static void promise9Length() {
        RopeWords x = Check.market();
        int[][] words = {{10, 3}, {11, 4}, {12, 7}, {13, NONE}, {20, 5}, {30, 2}, {40, NONE}, {110, 6}, {120, 8},
            {130, NONE}, {132, NONE}, {310, 5}, {322, 11}, {220, NONE}, {212, 12}, {101, NONE}, {1010, NONE},
            {1110, NONE}, {0, NONE}, {1, NONE}, {-1, NONE}, {-10, NONE}, {-120, NONE}, {9, NONE}, {70, NONE},
            {Integer.MAX_VALUE, NONE}, {Integer.MIN_VALUE, NONE}, {1111111110, NONE}};
        for (int[] word : words) {
            Check.due("9: length(" + word[0] + ")", x.length(word[0]), word[1]);
        }
        RopeWords four = Check.feast("g4 0;s1;s2;n1 0;");
        Check.due("9: four stems", four.length(11120), 5);
        Check.due("9: five stems", four.length(111110), NONE);
        Check.due("9: barred within", four.length(11210), NONE);
        Check.due("9: no ending there", four.length(11), NONE);
    }

    private static void promise10Said() {
        RopeWords x = Check.feast("g2 0;s1;s1;s1;s1;s1;s1;p0 40 0 0;p0 40 0 0;p1 40 0 0;");
        Check.due("10: said(0) at first", x.said(0), NONE);
        x.round(0, 10, 2, 20);
        x.round(0, NONE, 2, 30);
        Check.due("10: said(0)", x.said(0), 10);
        Check.due("10: said(1)", x.said(1), 20);
        Check.due("10: said(2)", x.said(2), 30);
        Check.due("10: said(3)", x.said(3), NONE);
        Check.due("10: said(-1)", x.said(-1), NONE);
        Check.due("10: said(40)", x.said(40), NONE);
    }
}
