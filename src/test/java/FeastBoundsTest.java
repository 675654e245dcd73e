/**
 * Promises 1 to 10 and section 1 of the document: each sentence that names a bound, with the last
 * that is taken and the first that is refused.
 */
public final class FeastBoundsTest {
    private static final int NONE = RopeWords.NONE;
    private static final int UNKNOWN = RopeWords.UNKNOWN;
    private static final int OUTSIDE = RopeWords.OUTSIDE;
    private static final int NOT = RopeWords.NOT;
    private static final int FULL = RopeWords.FULL;
    private static final String SIX_STEMS = "g4 0;s1;s2;s3;s4;s5;s6;";

    public static void main(String[] args) {
        theConstants();
        theBusyObjectHasAll();
        promise1NoGrammar();
        promise2Letters();
        promise2Full();
        promise2TextIsReadToItsLastLetter();
        promise3EmptyText();
        promise3HowManySpeakers();
        promise3TextIsEmptyThen();
        promise3AllBeginsAnew();
        promise3FaultLeavesAllElse();
        promise4NoneAndLatest();
        numberK();
        numberMud();
        numberOfStem();
        numberOfEnding();
        numbersOfSpeaker();
        numbersOfBar();
        figuresOfNumbers();
        blanks();
        everyLetterFirst();
        everyLetterAtAClause();
        everyLetterAtANumber();
        everyLetterBehindANumber();
        theEnd();
        mostOfEachClause();
        grammarOnce();
        barTwice();
        firstLetterThenLeastFault();
        promise5Told();
        promise6Stem();
        promise7Ending();
        promise8Speaker();
        promise9FiguresOfStems();
        promise9HowManyStems();
        promise9Endings();
        promise9Barred();
        promise10Said();
        Check.end();
    }

    /** "NONE is -1 .. They are far below all that is counted: -1000000001 and on." */
    private static void theConstants() {
        Check.due("NONE", RopeWords.NONE, -1);
        Check.due("UNKNOWN", RopeWords.UNKNOWN, -1000000001);
        Check.due("OUTSIDE", RopeWords.OUTSIDE, -1000000002);
        Check.due("NOT", RopeWords.NOT, -1000000003);
        Check.due("FULL", RopeWords.FULL, -1000000004);
    }

    /** Else "nothing changed" would say little. */
    private static void theBusyObjectHasAll() {
        RopeWords x = Check.busy();
        Check.holds("busy: the rope is not at 0", x.told(6) != 0);
        Check.due("busy: rounds", x.told(7), 6);
        Check.holds("busy: words", x.told(8) > 2);
        Check.due("busy: marks", x.told(9), 2);
        Check.due("busy: entries", x.told(10), 3);
        Check.due("busy: can be undone", x.told(11), 3);
        Check.due("busy: letters", x.told(5), 20);
        Check.due("busy: image 0", x.goBack(0), 1);
        Check.due("busy: image 1", x.goBack(1), 1);
    }

    private static void promise1NoGrammar() {
        RopeWords x = new RopeWords();
        for (int what = 0; what <= 11; what++) {
            Check.due("1: told(" + what + ")", x.told(what), 0);
        }
        Check.due("1: fault()", x.fault(), NONE);
        Check.due("1: stem(0)", x.stem(0), UNKNOWN);
        Check.due("1: ending(0)", x.ending(0), UNKNOWN);
        Check.due("1: speaker(0, 0)", x.speaker(0, 0), UNKNOWN);
        Check.due("1: length(10)", x.length(10), NONE);
        Check.due("1: length(0)", x.length(0), NONE);
        Check.due("1: said(0)", x.said(0), NONE);
        Check.due("1: round", x.round(0, NONE, 1, NONE), UNKNOWN);
        Check.due("1: drift(1)", x.drift(1), NOT);
        Check.due("1: undo()", x.undo(), NOT);
        Check.due("1: longest(99, 0)", x.longest(99, 0), NONE);
        Check.due("1: longest(0, 1)", x.longest(0, 1), NONE);
        Check.due("1: howMany(0)", x.howMany(0), 0);
        Check.due("1: howMany(1)", x.howMany(1), 0);
        Check.due("1: order(0, 0, NONE)", x.order(0, 0, NONE), 0);
        Check.due("1: order(1, 0, 0)", x.order(1, 0, 0), NONE);
        Check.due("1: even(0)", x.even(0), NONE);
        Check.due("1: even(1)", x.even(1), 0);
        Check.due("1: silence(0, 1)", x.silence(0, 1), UNKNOWN);
        Check.due("1: pick(0)", x.pick(0), 0);
        Check.due("1: pick(1)", x.pick(1), 0);
        Check.due("1: coughs(0)", x.coughs(0), 1000000000);
        Check.due("1: coughs(1)", x.coughs(1), UNKNOWN);
        Check.due("1: keepBack(0)", x.keepBack(0), NONE);
        Check.due("1: keepBack(1)", x.keepBack(1), NONE);
        Check.due("1: spoke(0, NONE)", x.spoke(0, NONE), NONE);
        Check.due("1: judge()", x.judge(), NONE);
        Check.due("1: tear()", x.tear(), 0);
        Check.due("1: goBack(0)", x.goBack(0), NOT);
        Check.due("1: goBack(1)", x.goBack(1), NOT);
        Check.due("1: seed(1)", x.seed(1), 0);
        Check.due("1: game(1, 1, 0) needs no grammar", x.game(1, 1, 0), 1001);
    }

    /** "One letter (a number 0 .. 255) comes behind THE TEXT: how many it has. OUTSIDE" */
    private static void promise2Letters() {
        RopeWords x = new RopeWords();
        Check.due("2: feed(0)", x.feed(0), 1);
        Check.due("2: feed(1)", x.feed(1), 2);
        Check.due("2: feed(254)", x.feed(254), 3);
        Check.due("2: feed(255)", x.feed(255), 4);
        int[] outside = {-1, 256, -2, 257, 256 + 'g', 65536, Integer.MIN_VALUE, Integer.MAX_VALUE};
        for (int letter : outside) {
            Check.refused("2: feed(" + letter + ")", OUTSIDE, Check::busy, y -> y.feed(letter));
        }
    }

    private static RopeWords textOf(int letters) {
        RopeWords x = new RopeWords();
        Check.feed(x, "g1 0;p0 1 1 1;".substring(0, Math.min(14, letters)));
        Check.feed(x, " ".repeat(Math.max(0, letters - 14)));
        return x;
    }

    /** "THE FEAST is told in a text (250 letters at most)"; "FULL (250)" */
    private static void promise2Full() {
        Check.due("2: the 249th", textOf(248).feed(32), 249);
        Check.due("2: the 250th", textOf(249).feed(32), 250);
        Check.refused("2: the 251st", FULL, () -> textOf(250), x -> x.feed(32));
        Check.refused("2: the 251st of 0", FULL, () -> textOf(250), x -> x.feed(0));
        Check.refused("2: the 251st of 255", FULL, () -> textOf(250), x -> x.feed(255));
        Check.refused("2: outside goes ahead of full", OUTSIDE, () -> textOf(250), x -> x.feed(-1));
        Check.refused("2: outside goes ahead of full", OUTSIDE, () -> textOf(250), x -> x.feed(256));
        RopeWords x = textOf(250);
        Check.due("2: the whole text is taken", x.feast(), 1);
        Check.due("2: it is empty, so there is room", x.feed(32), 1);
    }

    private static String filledTo(int letters, String begin, String end) {
        return begin + " ".repeat(letters - begin.length() - end.length()) + end;
    }

    private static void promise2TextIsReadToItsLastLetter() {
        Check.dueFault(filledTo(250, "g1 0;", "s1;"), 0, NONE);
        Check.dueFault(filledTo(250, "g1 0;", "s1"), 1, 250);
        Check.dueFault(filledTo(250, "g1 0;", "s"), 1, 250);
        Check.dueFault(filledTo(250, "g1 0;", ";"), 1, 249);
        Check.dueFault(filledTo(250, "g1 0;", "s0"), 2, 249);
        Check.dueFault(filledTo(250, "g1 0;", "g"), 3, 249);
        Check.dueFault(filledTo(249, "g1 0;", "s1"), 1, 249);
        Check.dueFault(filledTo(250, "g1 0;s1;n0 0;", "n0 0"), 4, 249);
        RopeWords x = Check.feast(filledTo(250, "g1 0;", "s7;"));
        Check.due("2: the last clause counts", x.stem(0), 7);
    }

    /** "An empty text: no grammar (K 0)." */
    private static void promise3EmptyText() {
        RopeWords x = Check.busy();
        x.feast();
        Check.due("3: feast() of an empty text", x.feast(), 0);
        for (int what = 0; what <= 11; what++) {
            Check.due("3: told(" + what + ") of an empty text", x.told(what), 0);
        }
        Check.due("3: fault() of an empty text", x.fault(), NONE);
        Check.due("3: no stem", x.stem(0), UNKNOWN);
        Check.due("3: no ending", x.ending(0), UNKNOWN);
        Check.due("3: no speaker", x.speaker(0, 0), UNKNOWN);
        Check.due("3: no word", x.length(10), NONE);
        Check.due("3: no longest", x.longest(99, 0), NONE);
        for (int l = 0; l <= 42; l++) {
            Check.due("3: howMany(" + l + ")", x.howMany(l), 0);
        }
        Check.due("3: feast() once more", x.feast(), 0);
        RopeWords y = new RopeWords();
        Check.feed(y, "g1 0;");
        Check.due("3: a grammar without stems", y.feast(), 0);
        Check.due("3: its K", y.told(0), 1);
    }

    private static String speakers(int n) {
        return "p0 1 1 1;".repeat(n);
    }

    /** "becomes THE FEAST ..: how many SPEAKERS" */
    private static void promise3HowManySpeakers() {
        for (int n = 0; n <= 10; n++) {
            RopeWords x = new RopeWords();
            Check.feed(x, "g1 0;" + speakers(n));
            Check.due("3: feast() with " + n, x.feast(), n);
            Check.due("3: told(4) with " + n, x.told(4), n);
        }
    }

    /** "THE TEXT (it is empty then, with a FAULT, too)" */
    private static void promise3TextIsEmptyThen() {
        RopeWords x = new RopeWords();
        Check.feed(x, "g1 0;");
        x.feast();
        Check.due("3: empty behind a feast", x.told(5), 0);
        Check.due("3: the first letter again", x.feed('x'), 1);
        Check.due("3: a fault", x.feast(), -11);
        Check.due("3: empty behind a fault", x.told(5), 0);
        Check.due("3: the first letter again", x.feed('g'), 1);
        Check.feed(x, "2 0;");
        Check.due("3: nothing of the text ahead", x.feast(), 0);
        Check.due("3: K", x.told(0), 2);
    }

    /** "(THE ROPE at 0, no ROUND, nothing said; no MARKS, no BOOK; IMAGES, what could be undone are gone; THE SEED stays)" */
    private static void promise3AllBeginsAnew() {
        RopeWords x = Check.busy();
        int seed = x.seed(0);
        x.seed(seed);
        Check.due("3: feast()", x.feast(), 1);
        int[] due = {3, 2, 1, 1, 1, 0, 0, 0, 0, 0, 0, 0};
        for (int what = 0; what <= 11; what++) {
            Check.due("3: told(" + what + ")", x.told(what), due[what]);
        }
        Check.due("3: nothing said", x.said(0), NONE);
        Check.due("3: breath as told", x.speaker(0, 2), 7);
        Check.due("3: no mark", x.spoke(0, NONE), NONE);
        Check.due("3: no entry", x.judge(), NONE);
        Check.due("3: nothing to tear", x.tear(), 0);
        Check.due("3: nothing to undo", x.undo(), NOT);
        Check.due("3: image 0 is gone", x.goBack(0), NOT);
        Check.due("3: image 1 is gone", x.goBack(1), NOT);
        Check.due("3: the seed stays", x.seed(0), seed);
        RopeWords y = Check.feast("g1 0;s1;p0 1 1 1;p1 1 1 1;");
        y.round(0, 10, 1, NONE);
        Check.feed(y, "g1 0;s1;p0 1 1 1;p1 1 1 1;");
        y.feast();
        Check.due("3: breath is whole, the word may come", y.round(0, 10, 1, NONE), -1);
    }

    private static int feastOf(RopeWords x, String text) {
        Check.feed(x, text);
        return x.feast();
    }

    /** "-10 less the number of its FAULT (all else is as it was)" */
    private static void promise3FaultLeavesAllElse() {
        String great = "g4 9;s9;s9;s9;e5;e5;p1 40 99 99;p1 40 99 99;p0 40 99 99;n0 0;n1 0;n2 2;";
        String[] ends = {"x", "s0;", "g1 0;", "n1 0;"};
        for (int i = 0; i < ends.length; i++) {
            String text = great + ends[i];
            Check.due("3: " + text, feastOf(Check.busyWithoutText(), text), -11 - i);
            Check.sameView("3: feast() of " + text, Check::busyWithoutText, x -> feastOf(x, text));
            Check.sameView("3: feast() of " + text, RopeWords::new, x -> feastOf(x, text));
        }
        Check.sameView("3: two faults", Check::busyWithoutText, x -> feastOf(x, great + "x") + feastOf(x, great + "s0;"));
    }

    /** "The letter of the FAULT of the latest feast(); NONE." */
    private static void promise4NoneAndLatest() {
        RopeWords x = new RopeWords();
        Check.due("4: no feast() yet", x.fault(), NONE);
        Check.due("4: a fault", feastOf(x, "g1 0;s0;"), -12);
        Check.due("4: its letter", x.fault(), 6);
        Check.due("4: it stays", x.fault(), 6);
        Check.feed(x, "g1 0;");
        Check.due("4: it stays while a text is fed", x.fault(), 6);
        Check.due("4: a good text", x.feast(), 0);
        Check.due("4: none", x.fault(), NONE);
        Check.due("4: at the first letter", feastOf(x, "x"), -11);
        Check.due("4: 0", x.fault(), 0);
        Check.due("4: an empty text", x.feast(), 0);
        Check.due("4: none", x.fault(), NONE);
    }

    /** "'g' K M ';' (a WORD has 1 to K STEMS, K 1 .. 4 .." */
    private static void numberK() {
        Check.dueFault("g0 0;", 2, 1);
        for (int k = 1; k <= 4; k++) {
            Check.dueFault("g" + k + " 0;", 0, NONE);
            Check.due("1: K", Check.feast("g" + k + " 0;").told(0), k);
        }
        Check.dueFault("g5 0;", 2, 1);
        Check.dueFault("g999 0;", 2, 1);
    }

    /** "MUD M, 0 .. 9" */
    private static void numberMud() {
        Check.dueFault("g1 0;", 0, NONE);
        Check.dueFault("g1 9;", 0, NONE);
        Check.dueFault("g1 10;", 2, 3);
        Check.due("1: MUD 0", Check.feast("g1 0;").told(1), 0);
        Check.due("1: MUD 9", Check.feast("g1 9;").told(1), 9);
    }

    /** "'s' L ';' (.. of L syllables, 1 .. 9)" */
    private static void numberOfStem() {
        Check.dueFault("g1 0;s0;", 2, 6);
        Check.dueFault("g1 0;s1;", 0, NONE);
        Check.dueFault("g1 0;s9;", 0, NONE);
        Check.dueFault("g1 0;s10;", 2, 6);
        Check.due("1: a stem of 1", Check.feast("g1 0;s1;").stem(0), 1);
        Check.due("1: a stem of 9", Check.feast("g1 0;s9;").stem(0), 9);
    }

    /** "'e' L ';' (.. of L syllables, 1 .. 5)" */
    private static void numberOfEnding() {
        Check.dueFault("g1 0;e0;", 2, 6);
        Check.dueFault("g1 0;e1;", 0, NONE);
        Check.dueFault("g1 0;e5;", 0, NONE);
        Check.dueFault("g1 0;e6;", 2, 6);
        Check.due("1: an ending of 1", Check.feast("g1 0;e1;").ending(0), 1);
        Check.due("1: an ending of 5", Check.feast("g1 0;e5;").ending(0), 5);
    }

    /** "'p' S B W C ';' (.. SIDE S, 0 or 1; BREATH B, 1 .. 40; WEIGHT W, 0 .. 99; coughs by C of a hundred, 0 .. 100)" */
    private static void numbersOfSpeaker() {
        int[] what = {0, 1, 3, 4};
        int[] low = {0, 1, 0, 0};
        int[] high = {1, 40, 99, 100};
        for (int i = 0; i < 4; i++) {
            for (int value = Math.max(0, low[i] - 1); value <= high[i] + 1; value++) {
                String[] numbers = {"0", "1", "0", "0"};
                numbers[i] = Integer.toString(value);
                String text = "g1 0;p" + String.join(" ", numbers) + ";";
                if (value < low[i] || value > high[i]) {
                    Check.dueFault(text, 2, 6 + 2 * i);
                } else {
                    Check.dueFault(text, 0, NONE);
                    Check.due("1: " + text, Check.feast(text).speaker(0, what[i]), value);
                }
            }
        }
        Check.dueFault("g1 0;p0 1 0;", 1, 11);
        Check.dueFault("g1 0;p0 1 0 0 0;", 1, 14);
    }

    /** "'n' S S ';' (.. STEM S told ahead ..)"; "a STEM that was not told yet (at its first)" */
    private static void numbersOfBar() {
        Check.dueFault("g1 0;n0 0;", 2, 6);
        Check.dueFault("g1 0;s1;n0 0;", 0, NONE);
        Check.dueFault("g1 0;s1;n1 0;", 2, 9);
        Check.dueFault("g1 0;s1;n0 1;", 2, 11);
        Check.dueFault("g1 0;s1;n0 01;", 2, 11);
        Check.dueFault("g1 0;s1;n0 1;s1;", 2, 11);
        Check.dueFault("g1 0;s1;s1;n0 1;", 0, NONE);
        Check.dueFault("g1 0;s1;s1;n1 0;", 0, NONE);
        Check.dueFault("g1 0;s1;s1;n1 1;", 0, NONE);
        Check.dueFault("g1 0;s1;s1;n2 1;", 2, 12);
        Check.dueFault("g1 0;s1;s1;n1 2;", 2, 14);
        Check.dueFault(SIX_STEMS + "n5 5;", 0, NONE);
        Check.dueFault(SIX_STEMS + "n6 5;", 2, 24);
        Check.dueFault(SIX_STEMS + "n5 6;", 2, 26);
        RopeWords x = Check.feast("g2 0;s1;n0 0;s1;n0 1;");
        Check.due("1: barred ahead", x.length(110), NONE);
        Check.due("1: barred later", x.length(120), NONE);
        Check.due("1: not barred", x.length(210), 2);
    }

    /** "NUMBERS have one to three figures"; "2 a NUMBER of four figures or more" */
    private static void figuresOfNumbers() {
        String[] heads = {"g", "g1 ", "g1 0;s", "g1 0;e", "g1 0;p", "g1 0;p1 ", "g1 0;p1 1 ", "g1 0;p1 1 1 ",
            "g1 0;s1;s1;n", "g1 0;s1;s1;n1 "};
        String[] tails = {" 1;", ";", ";", ";", " 1 1 1;", " 1 1;", " 1;", ";", " 1;", ";"};
        for (int i = 0; i < heads.length; i++) {
            int at = heads[i].length();
            Check.dueFault(heads[i] + "1" + tails[i], 0, NONE);
            Check.dueFault(heads[i] + "01" + tails[i], 0, NONE);
            Check.dueFault(heads[i] + "001" + tails[i], 0, NONE);
            Check.dueFault(heads[i] + "0001" + tails[i], 2, at);
            Check.dueFault(heads[i] + "1000" + tails[i], 2, at);
            Check.dueFault(heads[i] + "999" + tails[i], 2, at);
            Check.dueFault(heads[i] + "4294967297" + tails[i], 2, at);
            Check.dueFault(heads[i] + "18446744073709551617" + tails[i], 2, at);
            String without = heads[i] + tails[i].trim();
            Check.dueFault(without, 1, without.length() - 1);
        }
    }

    /** "blanks (32) may stand anywhere but within NUMBERS; two NUMBERS side by side need one" */
    private static void blanks() {
        Check.dueFault("  g  1  0  ;  s  1  ;  n  0  0  ;  p  0  1  0  0  ;  e  1  ;  ", 0, NONE);
        Check.dueFault("g1 0;s1;n0 0;p0 1 0 0;e1;", 0, NONE);
        RopeWords x = Check.feast(" g 4 9 ; s 9 ; e 5 ; p 1 40 99 100 ; n 0 0 ; ");
        int[] due = {4, 9, 1, 1, 1};
        for (int what = 0; what < due.length; what++) {
            Check.due("1: told(" + what + ") with blanks", x.told(what), due[what]);
        }
        Check.dueFault("g1 0;p0 4 0 0 0;", 1, 14); // 4 0 is two numbers, so the last one is a fifth
        Check.dueFault("g1 0;s1 2;", 1, 8);
        Check.dueFault("g10;", 2, 1);
        Check.dueFault("g100;", 2, 1);
        Check.dueFault("g1 00;", 0, NONE);
        Check.dueFault("   ", 0, NONE);
    }

    /** "1 it cannot stand there (a letter that is no word, another word first than 'g')" */
    private static void everyLetterFirst() {
        for (int c = 0; c < 256; c++) {
            if (c == 'g') {
                Check.dueFault("g", 1, 1);
            } else if (c != ' ') {
                Check.dueFault("" + (char) c, 1, 0);
                Check.dueFault(" " + (char) c + "1 0;", 1, 1);
            }
        }
        for (char word : "sepn".toCharArray()) {
            Check.dueFault(word + "1;g1 0;", 1, 0);
        }
    }

    private static void everyLetterAtAClause() {
        for (int c = 0; c < 256; c++) {
            String text = "g1 0;" + (char) c;
            if (c == 'g') {
                Check.dueFault(text, 3, 5);
            } else if (c == 's' || c == 'e' || c == 'p' || c == 'n') {
                Check.dueFault(text, 1, 6);
            } else if (c == ' ') {
                Check.dueFault(text, 0, NONE);
            } else {
                Check.dueFault(text, 1, 5);
            }
        }
    }

    private static void everyLetterAtANumber() {
        for (int c = 0; c < 256; c++) {
            String text = "g1 0;s" + (char) c + ";";
            if (c >= '1' && c <= '9') {
                Check.dueFault(text, 0, NONE);
            } else if (c == '0') {
                Check.dueFault(text, 2, 6);
            } else {
                Check.dueFault(text, 1, c == ' ' ? 7 : 6);
            }
        }
    }

    private static void everyLetterBehindANumber() {
        for (int c = 0; c < 256; c++) {
            String text = "g1 0;s1" + (char) c;
            if (c >= '0' && c <= '9') {
                Check.dueFault(text, 2, 6);
            } else if (c == ';') {
                Check.dueFault(text, 0, NONE);
            } else {
                Check.dueFault(text, 1, c == ' ' ? 8 : 7);
            }
        }
        for (char word : "gsepn".toCharArray()) {
            Check.dueFault("g1" + word, 1, 2);
            Check.dueFault("g1 0" + word, 1, 4);
        }
    }

    /** "at the first letter that has one (the end at the text's length)" */
    private static void theEnd() {
        String text = "g1 0;s1;n0 0;p0 1 0 0;e1;";
        int[] goodEnds = {0, 5, 8, 13, 22, 25};
        for (int n = 0; n <= text.length(); n++) {
            boolean good = false;
            for (int end : goodEnds) {
                good |= end == n;
            }
            Check.dueFault(text.substring(0, n), good ? 0 : 1, good ? NONE : n);
            if (n > 0) {
                Check.dueFault(text.substring(0, n) + "  ", good ? 0 : 1, good ? NONE : n + 2);
            }
        }
    }

    /** "6 STEMS at most", "4 ENDINGS at most", "10 SPEAKERS at most", "'n' .. 6 at most"; "3 .. a seventh 's', 'n', a fifth 'e', an eleventh 'p' (at it)" */
    private static void mostOfEachClause() {
        String bars = "n0 0;n0 1;n0 2;n0 3;n0 4;n0 5;";
        most("g1 0;", "s3;", "s3;", 6, 2);
        most("g1 0;", "e3;", "e3;", 4, 3);
        most("g1 0;", "p1 1 1 1;", "p1 1 1 1;", 10, 4);
        String fiveBars = SIX_STEMS + bars.substring(0, 25);
        Check.dueFault(fiveBars, 0, NONE);
        Check.dueFault(SIX_STEMS + bars, 0, NONE);
        Check.dueFault(SIX_STEMS + bars + "n1 0;", 3, 53);
        Check.dueFault(SIX_STEMS + bars + "  n", 3, 55);
        Check.dueFault(SIX_STEMS + bars + "n0 0;", 3, 53);
        Check.due("1: the sixth bar counts", Check.feast(SIX_STEMS + bars).length(160), NONE);
        Check.due("1: of five it does not", Check.feast(fiveBars).length(160), 7);
    }

    private static void most(String head, String clause, String more, int most, int what) {
        String all = head + clause.repeat(most);
        Check.dueFault(head + clause.repeat(most - 1), 0, NONE);
        Check.dueFault(all, 0, NONE);
        Check.due("1: told(" + what + ")", Check.feast(all).told(what), most);
        Check.dueFault(all + more, 3, all.length());
        Check.dueFault(all + more.charAt(0), 3, all.length());
        Check.dueFault(all + " " + more.charAt(0) + "x", 3, all.length() + 1);
        Check.dueFault(all + more.charAt(0) + "0;", 3, all.length());
    }

    /** "first, once"; "3 'g' again" */
    private static void grammarOnce() {
        Check.dueFault("g1 0;", 0, NONE);
        Check.dueFault("g1 0;g1 0;", 3, 5);
        Check.dueFault("g1 0; g", 3, 6);
        Check.dueFault("g1 0;s1;e1;p0 1 1 1;g", 3, 20);
        Check.dueFault("s1;g1 0;", 1, 0);
    }

    /** "each row of two once"; "4 'n' of both again (at the second)" */
    private static void barTwice() {
        String head = "g1 0;s1;s1;s1;";
        Check.dueFault(head + "n0 1;n1 0;", 0, NONE);
        Check.dueFault(head + "n0 1;n0 2;", 0, NONE);
        Check.dueFault(head + "n0 1;n2 1;", 0, NONE);
        Check.dueFault(head + "n0 0;n1 1;n2 2;", 0, NONE);
        Check.dueFault(head + "n0 1;n0 1;", 4, 22);
        Check.dueFault(head + "n0 1;n0 1", 4, 22);
        Check.dueFault(head + "n0 1;n0 1x", 4, 22);
        Check.dueFault(head + "n0 0;n0 0;", 4, 22);
        Check.dueFault(head + "n2 2;n0 1;e1;n002   002;", 4, 34);
        Check.dueFault(head + "n0 1;n1 0;n1 1;n2 2;n0 1;", 4, 37);
    }

    /** "FAULTS, at the first letter that has one .., of these the least" */
    private static void firstLetterThenLeastFault() {
        Check.dueFault("g5 x", 2, 1);
        Check.dueFault("g5", 2, 1);
        Check.dueFault("gx5", 1, 1);
        Check.dueFault("g1 10x", 2, 3);
        Check.dueFault("g1 0g", 1, 4); // it cannot stand there, and is 'g' again
        Check.dueFault("g1 0;gx", 3, 5);
        Check.dueFault("g1 0;s0x", 2, 6);
        Check.dueFault("g1 0;s0g", 2, 6);
        Check.dueFault("g1 0;s1;n0 0;n0 0000;", 2, 16); // four figures, and both again
        Check.dueFault("g1 0;s1;n0 0;n1 0;", 2, 14);
        Check.dueFault("g1 0;s1;n0 0;n0 1;", 2, 16);
        Check.dueFault("g1 0;s1;n0 0;n0 0;s0;", 4, 16);
        Check.dueFault("g1 0;p0 41 100 101;", 2, 8);
        Check.dueFault("g1 0;p0 41 100", 2, 8);
        Check.dueFault("g1 0;" + "s1;".repeat(6) + "s0", 3, 23);
    }

    /** "0 K, .. 11 how many can be undone. OUTSIDE." */
    private static void promise5Told() {
        int[] outside = {-1, 12, -2, 13, Integer.MIN_VALUE, Integer.MAX_VALUE};
        for (int what : outside) {
            Check.refused("5: told(" + what + ")", OUTSIDE, Check::busy, x -> x.told(what));
        }
        for (int i = 0; i <= 11; i++) {
            int what = i;
            Check.unchanged("5: told(" + what + ")", Check::busy, x -> x.told(what));
        }
        RopeWords x = Check.busy();
        int[] due = {2, 1, 3, 2, 4, 20};
        for (int what = 0; what < due.length; what++) {
            Check.due("5: told(" + what + ")", x.told(what), due[what]);
        }
        RopeWords below = Check.feast("g1 0;s1;p0 1 0 0;p1 1 0 0;");
        below.round(0, 10, 1, NONE);
        Check.due("5: the rope may be below 0", below.told(6), -1);
    }

    /** "Syllables of a STEM. UNKNOWN." */
    private static void promise6Stem() {
        int[] unknown = {-1, 3, 6, 7, Integer.MIN_VALUE, Integer.MAX_VALUE};
        for (int s : unknown) {
            Check.refused("6: stem(" + s + ")", UNKNOWN, Check::busy, x -> x.stem(s));
        }
        RopeWords x = Check.feast(SIX_STEMS);
        for (int s = 0; s < 6; s++) {
            Check.due("6: stem(" + s + ")", x.stem(s), s + 1);
        }
        Check.due("6: stem(6)", x.stem(6), UNKNOWN);
        Check.due("6: stem(-1)", x.stem(-1), UNKNOWN);
        Check.due("6: stem(0) of none", Check.feast("g1 0;e1;").stem(0), UNKNOWN);
        Check.due("6: stem(1) of one", Check.feast("g1 0;s1;").stem(1), UNKNOWN);
        Check.unchanged("6: stem(0)", Check::busy, y -> y.stem(0));
    }

    /** "Syllables of an ENDING. UNKNOWN." */
    private static void promise7Ending() {
        int[] unknown = {-1, 2, 4, 5, Integer.MIN_VALUE, Integer.MAX_VALUE};
        for (int e : unknown) {
            Check.refused("7: ending(" + e + ")", UNKNOWN, Check::busy, x -> x.ending(e));
        }
        RopeWords x = Check.feast("g1 0;e2;e3;e4;e5;");
        for (int e = 0; e < 4; e++) {
            Check.due("7: ending(" + e + ")", x.ending(e), e + 2);
        }
        Check.due("7: ending(4)", x.ending(4), UNKNOWN);
        Check.due("7: ending(-1)", x.ending(-1), UNKNOWN);
        Check.due("7: ending(0) of none", Check.feast("g1 0;s1;").ending(0), UNKNOWN);
        Check.unchanged("7: ending(0)", Check::busy, y -> y.ending(0));
    }

    /** "Of a SPEAKER: what = 0 SIDE, .. 4 C. UNKNOWN, OUTSIDE." */
    private static void promise8Speaker() {
        int[] unknown = {-1, 4, 9, 10, 11, Integer.MIN_VALUE, Integer.MAX_VALUE};
        for (int p : unknown) {
            Check.refused("8: speaker(" + p + ", 0)", UNKNOWN, Check::busy, x -> x.speaker(p, 0));
            Check.refused("8: unknown goes ahead of outside", UNKNOWN, Check::busy, x -> x.speaker(p, 5));
        }
        int[] outside = {-1, 5, -2, 6, Integer.MIN_VALUE, Integer.MAX_VALUE};
        for (int what : outside) {
            Check.refused("8: speaker(0, " + what + ")", OUTSIDE, Check::busy, x -> x.speaker(0, what));
            Check.refused("8: speaker(3, " + what + ")", OUTSIDE, Check::busy, x -> x.speaker(3, what));
        }
        RopeWords x = Check.feast("g1 0;" + speakers(9) + "p1 40 99 100;");
        int[] last = {1, 40, 40, 99, 100};
        for (int what = 0; what < 5; what++) {
            Check.due("8: speaker(9, " + what + ")", x.speaker(9, what), last[what]);
        }
        Check.due("8: speaker(10, 0)", x.speaker(10, 0), UNKNOWN);
        Check.unchanged("8: speaker(0, 2)", Check::busy, y -> y.speaker(0, 2));
    }

    /** "figures 1 .. 6 of its STEMS (STEM and 1 ..)"; "GOOD: figures are of STEMS, ENDINGS that there are" */
    private static void promise9FiguresOfStems() {
        RopeWords x = Check.feast(SIX_STEMS);
        for (int figure = 0; figure <= 9; figure++) {
            int due = figure >= 1 && figure <= 6 ? figure : NONE;
            Check.due("9: length(" + figure * 10 + ")", x.length(figure * 10), due);
            int word = 1000 + figure * 100 + 10;
            Check.due("9: length(" + word + ")", x.length(word), due == NONE ? NONE : due + 2);
            Check.due("9: length(" + figure + "), no stem", x.length(figure), NONE);
        }
        RopeWords three = Check.market();
        Check.due("9: the last stem", three.length(30), 2);
        Check.due("9: a stem that there is not", three.length(40), NONE);
        Check.due("9: nor as the second", three.length(340), NONE);
        int[] none = {NONE, -10, -11, -120, 0, Integer.MIN_VALUE, Integer.MAX_VALUE};
        for (int word : none) {
            Check.refused("9: length(" + word + ")", NONE, Check::busy, y -> y.length(word));
        }
        Check.unchanged("9: length(120)", Check::busy, y -> y.length(120));
    }

    /** "a WORD has 1 to K STEMS" */
    private static void promise9HowManyStems() {
        int[] words = {0, 10, 110, 1110, 11110, 111110, 1111110, 11111110, 111111110, 1111111110};
        for (int k = 1; k <= 4; k++) {
            RopeWords x = Check.feast("g" + k + " 0;s1;e2;");
            for (int n = 0; n < words.length; n++) {
                boolean good = n >= 1 && n <= k;
                Check.due("9: " + n + " stems of K " + k, x.length(words[n]), good ? n : NONE);
                Check.due("9: " + n + " stems of K " + k + " and an ending", x.length(words[n] + 1), good ? n + 2 : NONE);
            }
        }
    }

    /** "behind them the ENDING: times 10, and ENDING and 1 (0 without one)" */
    private static void promise9Endings() {
        RopeWords all = Check.feast("g1 0;s9;e1;e2;e3;e4;");
        RopeWords one = Check.feast("g1 0;s9;e1;");
        RopeWords without = Check.feast("g1 0;s9;");
        for (int e = 0; e <= 9; e++) {
            Check.due("9: four endings, " + e, all.length(10 + e), e <= 4 ? 9 + e : NONE);
            Check.due("9: one ending, " + e, one.length(10 + e), e <= 1 ? 9 + e : NONE);
            Check.due("9: no ending, " + e, without.length(10 + e), e == 0 ? 9 : NONE);
        }
        Check.due("9: the longest", Check.feast("g4 0;s9;e5;").length(11111), 41);
    }

    /** "STEM S told ahead may not stand right ahead of the other one"; "no two side by side that may not be" */
    private static void promise9Barred() {
        RopeWords x = Check.feast("g4 0;s1;s2;s3;e1;n0 1;n2 2;");
        int[][] due = {{120, NONE}, {121, NONE}, {210, 3}, {1320, 6}, {3120, NONE}, {1230, NONE}, {13130, 8}, {31320, 9},
            {13210, 7}, {32120, NONE}, {31120, NONE}, {12130, NONE}, {330, NONE}, {30, 3}, {3130, 7}, {13330, NONE}};
        for (int[] row : due) {
            Check.due("9: length(" + row[0] + ")", x.length(row[0]), row[1]);
        }
    }

    /** "The k-th of the WORDS that were said (0: the oldest kept); NONE: not so many." */
    private static void promise10Said() {
        RopeWords x = Check.feast("g2 0;s1;s1;s1;p0 40 0 0;p1 40 0 0;");
        Check.due("10: said(0) of none", x.said(0), NONE);
        x.round(0, 30, 1, NONE);
        Check.due("10: said(0) of one", x.said(0), 30);
        Check.due("10: said(1) of one", x.said(1), NONE);
        x.round(0, 10, 1, 20);
        int[] due = {30, 10, 20, NONE};
        for (int k = 0; k < due.length; k++) {
            Check.due("10: said(" + k + ") of three", x.said(k), due[k]);
        }
        int[] none = {-1, 39, 40, 41, Integer.MIN_VALUE, Integer.MAX_VALUE};
        for (int k : none) {
            Check.refused("10: said(" + k + ")", NONE, Check::busy, y -> y.said(k));
        }
        Check.unchanged("10: said(0)", Check::busy, y -> y.said(0));
    }
}
