/** What the project's tests share: answers held against those that are due, and feasts by a text. */
final class Check {
    /** The feast of most tests: two stems apart, mud 1, two speakers a side. */
    static final String MARKET = "g2 1;s3;s5;s2;e1;e4;p0 9 50 10;p1 12 20 0;p0 20 0 50;p1 6 90 5;n1 1;n0 2;";

    private static int wrong = 0;
    private static int asked = 0;

    private Check() {
    }

    static void due(String call, long got, long want) {
        asked++;
        if (got != want) {
            wrong++;
            System.out.println(call + " answered " + got + ", due is " + want);
        }
    }

    static void holds(String what, boolean is) {
        due(what, is ? 1 : 0, 1);
    }

    static void feed(RopeWords x, String text) {
        for (int i = 0; i < text.length(); i++) {
            x.feed(text.charAt(i));
        }
    }

    /** A new object with a text fed and made a feast. */
    static RopeWords feast(String text) {
        RopeWords x = new RopeWords();
        feed(x, text);
        int answer = x.feast();
        if (answer < 0) {
            due("feast() of " + text, answer, 0);
        }
        return x;
    }

    static RopeWords market() {
        return feast(MARKET);
    }

    /** The fault of a text, and where; 0 and NONE: it has none. */
    static void dueFault(String text, int fault, int at) {
        RopeWords x = new RopeWords();
        feed(x, text);
        int answer = x.feast();
        due("feast() of \"" + text + "\"", answer < 0 ? -10 - answer : 0, fault);
        due("fault() of \"" + text + "\"", x.fault(), at);
        due("letters behind feast() of \"" + text + "\"", x.told(5), 0);
    }

    static void end() {
        System.out.println(wrong == 0 ? asked + " answers are as due" : wrong + " answers are not as due");
        if (wrong != 0) {
            System.exit(1);
        }
    }
}
