import java.util.function.Supplier;
import java.util.function.ToIntFunction;

/** What the project's tests share: answers held against those that are due, and feasts by a text. */
final class Check {
    /** The feast of most tests: two stems apart, mud 1, two speakers a side. */
    static final String MARKET = "g2 1;s3;s5;s2;e1;e4;p0 9 50 10;p1 12 20 0;p0 20 0 50;p1 6 90 5;n1 1;n0 2;";

    private static final int NONE = RopeWords.NONE;

    private static int wrong = 0;
    private static int asked = 0;

    private Check() {
    }

    static void due(String call, long got, long want) {
        asked++;
        if (got != want) {
            wrong++;
            System.out.println(call + " answered " + got + ", due is " + want);
        }
    }

    static void holds(String what, boolean is) {
        due(what, is ? 1 : 0, 1);
    }

    static void feed(RopeWords x, String text) {
        for (int i = 0; i < text.length(); i++) {
            x.feed(text.charAt(i));
        }
    }

    /** A new object with a text fed and made a feast. */
    static RopeWords feast(String text) {
        RopeWords x = new RopeWords();
        feed(x, text);
        int answer = x.feast();
        if (answer < 0) {
            due("feast() of " + text, answer, 0);
        }
        return x;
    }

    static RopeWords market() {
        return feast(MARKET);
    }

    /** With something of everything: so that whatever a call changes by mistake can be seen. */
    static RopeWords busy() {
        RopeWords x = busyWithoutText();
        feed(x, "g3 2;s4;e2;p1 7 7 7;");
        return x;
    }

    static RopeWords busyWithoutText() {
        RopeWords x = market();
        x.seed(77);
        x.drift(2);
        x.keep(0);
        x.seed(123456);
        x.round(0, 20, 1, 212);
        x.keep(1);
        x.round(0, NONE, 3, NONE);
        x.drift(1);
        x.round(2, 30, 1, NONE);
        x.mark(-2);
        x.mark(4);
        x.write(x.told(7), x.told(6));
        x.write(x.told(7) + 1, 333);
        x.write(x.told(7) + 3, -333);
        return x;
    }

    /** A call that is refused, and changes nothing; the object is made anew as often as it takes. */
    static void refused(String call, int due, Supplier<RopeWords> made, ToIntFunction<RopeWords> done) {
        due(call, done.applyAsInt(made.get()), due);
        unchanged(call, made, done);
    }

    /** A call that changes nothing, whatever it answers. */
    static void unchanged(String call, Supplier<RopeWords> made, ToIntFunction<RopeWords> done) {
        RopeWords touched = made.get();
        done.applyAsInt(touched);
        due("fault() behind " + call, touched.fault(), made.get().fault());
        sameView(call, made, done);
    }

    /** All but fault() is as it was. */
    static void sameView(String call, Supplier<RopeWords> made, ToIntFunction<RopeWords> done) {
        View.PARTS.forEach((part, seen) -> {
            RopeWords touched = made.get();
            done.applyAsInt(touched);
            String was = seen.apply(made.get()).toString();
            String is = seen.apply(touched).toString();
            holds(call + " changed " + part + ": " + was + " became " + is, was.equals(is));
        });
    }

    /** The fault of a text, and where; 0 and NONE: it has none. */
    static void dueFault(String text, int fault, int at) {
        RopeWords x = new RopeWords();
        feed(x, text);
        int answer = x.feast();
        due("feast() of \"" + text + "\"", answer < 0 ? -10 - answer : 0, fault);
        due("fault() of \"" + text + "\"", x.fault(), at);
        due("letters behind feast() of \"" + text + "\"", x.told(5), 0);
    }

    static void end() {
        System.out.println(wrong == 0 ? asked + " answers are as due" : wrong + " answers are not as due");
        if (wrong != 0) {
            System.exit(1);
        }
    }
}
