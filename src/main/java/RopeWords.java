import java.util.Arrays;

/**
 * Both ends of a rope and a word: a feast at which two sides pull by saying words, as
 * ../shared/DOC.md promises it. One file, in the Java of ../shared/LANGUAGE.md: nothing is thrown
 * and nothing is made after the constructor, for all calls of a run share one room.
 */
public final class RopeWords {
    public static final int NONE = -1, UNKNOWN = -1000000001, OUTSIDE = -1000000002, NOT = -1000000003, FULL = -1000000004;

    private static final int BILLION = 1000000000;
    private static final int MOST_LETTERS = 250;
    private static final int MOST_SPEAKERS = 10;
    private static final int MOST_ROUNDS = 90000;
    private static final int MOST_DRIFT = 99;
    private static final int MOST_SYLLABLES_ASKED = 99;
    private static final int MOST_AGAINST = 40;
    private static final int MOST_MARKS = 8;
    private static final int FARTHEST_MARK = 99;
    private static final int MOST_ENTRIES = 15;
    private static final int LAST_ENTRY_ROUND = 999;
    private static final int ROPE_END = 500;
    private static final int IMAGES = 2;

    private final Text text = new Text();
    private final Standing now = new Standing();
    private final Past past = new Past();
    private final Image[] images = new Image[IMAGES];
    private final Game gameTable = new Game();
    private final Row row = new Row();
    private final int[] marks = new int[MOST_MARKS];
    private final int[] entryRounds = new int[MOST_ENTRIES];
    private final int[] entryRopes = new int[MOST_ENTRIES];
    private final Draws draws = new Draws();
    private Feast held = new Feast();
    private Feast spare = new Feast();
    private int markCount;
    private int entryCount;

    public RopeWords() {
        for (int i = 0; i < IMAGES; i++) {
            images[i] = new Image();
        }
    }

    // ---- the feast

    public int feed(int letter) {
        if (letter < 0 || letter > 255) {
            return OUTSIDE;
        }
        if (text.size >= MOST_LETTERS) {
            return FULL;
        }
        text.add(letter);
        return text.size;
    }

    public int feast() {
        text.readInto(spare);
        if (text.fault != Text.NO_FAULT) {
            return -10 - text.fault;
        }
        Feast old = held;
        held = spare;
        spare = old;
        held.grammar.countWords();
        now.begin(held.speakers);
        markCount = 0;
        entryCount = 0;
        past.forget();
        for (int i = 0; i < IMAGES; i++) {
            images[i].kept = false;
        }
        return held.speakers.count;
    }

    public int fault() {
        return text.faultAt;
    }

    public int told(int what) {
        switch (what) {
            case 0: return held.grammar.mostStems;
            case 1: return held.grammar.mud;
            case 2: return held.grammar.stems;
            case 3: return held.grammar.endings;
            case 4: return held.speakers.count;
            case 5: return text.size;
            case 6: return now.rope;
            case 7: return now.rounds;
            case 8: return now.wordCount;
            case 9: return markCount;
            case 10: return entryCount;
            case 11: return past.count;
            default: return OUTSIDE;
        }
    }

    public int stem(int s) {
        if (s < 0 || s >= held.grammar.stems) {
            return UNKNOWN;
        }
        return held.grammar.stemSyllables[s];
    }

    public int ending(int e) {
        if (e < 0 || e >= held.grammar.endings) {
            return UNKNOWN;
        }
        return held.grammar.endingSyllables[e];
    }

    public int speaker(int p, int what) {
        if (p < 0 || p >= held.speakers.count) {
            return UNKNOWN;
        }
        switch (what) {
            case 0: return held.speakers.side[p];
            case 1: return held.speakers.breath[p];
            case 2: return now.breath[p];
            case 3: return held.speakers.weight[p];
            case 4: return held.speakers.cough[p];
            default: return OUTSIDE;
        }
    }

    public int length(int word) {
        return held.grammar.lengthOf(word);
    }

    public int said(int k) {
        if (k < 0 || k >= now.wordCount) {
            return NONE;
        }
        return now.words[k];
    }

    // ---- what is done

    public int round(int p, int v, int q, int w) {
        if (!areOpponents(p, q)) {
            return UNKNOWN;
        }
        if (!maySay(p, v) || !maySay(q, w) || (v == w && v != NONE)) {
            return NOT;
        }
        if (now.rounds > MOST_ROUNDS) {
            return FULL;
        }
        past.push(now);
        return now.play(held, p, v, q, w);
    }

    public int drift(int n) {
        if (n < 1 || n > MOST_DRIFT) {
            return OUTSIDE;
        }
        int side0 = held.speakers.countOf(0);
        int side1 = held.speakers.countOf(1);
        if (side0 == 0 || side1 == 0) {
            return NOT;
        }
        if (now.rounds > MOST_ROUNDS) {
            return FULL;
        }
        past.push(now);
        for (int i = 0; i < n; i++) {
            int p = held.speakers.nthOf(0, draws.next(side0));
            int v = drawnWord(p, NONE);
            int q = held.speakers.nthOf(1, draws.next(side1));
            int w = drawnWord(q, v);
            now.play(held, p, v, q, w);
        }
        return now.rope + 1000;
    }

    public int undo() {
        if (past.count == 0) {
            return NOT;
        }
        past.popInto(now);
        return past.count;
    }

    // ---- tried

    public int longest(int b, int what) {
        if (b < 0 || b > MOST_SYLLABLES_ASKED || what < 0 || what > 1) {
            return OUTSIDE;
        }
        int syllables = held.grammar.longestWithin(b);
        if (syllables == 0) {
            return NONE;
        }
        return what == 0 ? syllables : held.grammar.leastWord[syllables];
    }

    public int howMany(int l) {
        if (l < 0 || l > MOST_SYLLABLES_ASKED) {
            return OUTSIDE;
        }
        return l > Grammar.LONGEST ? 0 : held.grammar.wordsOf[l];
    }

    public int game(int n, int set, int last) {
        if (n < 1 || n > Game.MOST || last < 0 || last > n) {
            return OUTSIDE;
        }
        boolean lastIsLeft = last > 0 && ((set >> (last - 1)) & 1) == 1;
        if (set < 0 || set >= 1 << n || lastIsLeft) {
            return OUTSIDE;
        }
        gameTable.fillTo(set);
        return gameTable.worth(set, last) + 1000;
    }

    public int order(int side, int v, int i) {
        if (!isSide(side)) {
            return UNKNOWN;
        }
        if (v < 0 || v > MOST_AGAINST) {
            return OUTSIDE;
        }
        if (held.speakers.countOf(side) > Row.MOST) {
            return NOT;
        }
        row.plan(held, now, side, v);
        return i == NONE ? row.farthest() : row.nth(i);
    }

    public int even(int what) {
        if (what < 0 || what > 1) {
            return OUTSIDE;
        }
        int more = held.speakers.weightOfSide(0) - held.speakers.weightOfSide(1);
        if (what == 1) {
            return Math.abs(more);
        }
        if (more == 0) {
            return NONE;
        }
        return more < 0 ? 0 : 1;
    }

    public int silence(int p, int q) {
        if (!areOpponents(p, q)) {
            return UNKNOWN;
        }
        int set = 0;
        for (int choice = 0; choice < 4; choice++) {
            boolean best0 = gainOf(0, choice, p, q) >= gainOf(0, choice ^ 1, p, q);
            boolean best1 = gainOf(1, choice, p, q) >= gainOf(1, choice ^ 2, p, q);
            if (best0 && best1) {
                set |= 1 << choice;
            }
        }
        return set;
    }

    public int pick(int what) {
        if (what < 0 || what > 1) {
            return OUTSIDE;
        }
        int half = held.speakers.fairestHalf();
        return what == 0 ? half : held.speakers.differenceBy(half);
    }

    public int coughs(int set) {
        if (set < 0 || set >= 1 << held.speakers.count) {
            return UNKNOWN;
        }
        return held.speakers.oddsOfNoCough(set);
    }

    public int keepBack(int side) {
        if (!isSide(side)) {
            return UNKNOWN;
        }
        return held.speakers.leastWorth(side);
    }

    // ---- marks, books, images

    public int mark(int d) {
        if (d < -FARTHEST_MARK || d > FARTHEST_MARK) {
            return OUTSIDE;
        }
        if (markCount >= MOST_MARKS) {
            return FULL;
        }
        marks[markCount] = d;
        markCount++;
        return markCount;
    }

    public int spoke(int k, int i) {
        if (k < 0 || k >= markCount) {
            return NONE;
        }
        int found = 0;
        for (int p = 0; p < held.speakers.count; p++) {
            for (int q = 0; q < held.speakers.count; q++) {
                if (areOpponents(p, q) && held.couldMove(p, q, marks[k])) {
                    if (found == i) {
                        return 10 * p + q;
                    }
                    found++;
                }
            }
        }
        return i == NONE ? found : NONE;
    }

    public int write(int rounds, int rope) {
        if (rounds < 0 || rounds > LAST_ENTRY_ROUND || rope < -ROPE_END || rope > ROPE_END) {
            return OUTSIDE;
        }
        if (entryCount >= MOST_ENTRIES) {
            return FULL;
        }
        entryRounds[entryCount] = rounds;
        entryRopes[entryCount] = rope;
        entryCount++;
        return entryCount;
    }

    public int tear() {
        int both = markCount + entryCount;
        markCount = 0;
        entryCount = 0;
        return both;
    }

    public int judge() {
        for (int i = 0; i < entryCount; i++) {
            if (entryRounds[i] == now.rounds && entryRopes[i] != now.rope) {
                return i;
            }
        }
        return NONE;
    }

    public int seed(int v) {
        if (v < 0) {
            return OUTSIDE;
        }
        int was = draws.state;
        draws.state = v;
        return was;
    }

    public int keep(int i) {
        if (i < 0 || i >= IMAGES) {
            return UNKNOWN;
        }
        images[i].standing.copyFrom(now);
        images[i].seed = draws.state;
        images[i].kept = true;
        past.forget();
        return 1;
    }

    public int goBack(int i) {
        if (i < 0 || i >= IMAGES) {
            return UNKNOWN;
        }
        if (!images[i].kept) {
            return NOT;
        }
        now.copyFrom(images[i].standing);
        draws.state = images[i].seed;
        past.forget();
        return 1;
    }

    // ---- what several of them need

    private static boolean isSide(int side) {
        return side == 0 || side == 1;
    }

    private boolean areOpponents(int p, int q) {
        return held.speakers.isOf(0, p) && held.speakers.isOf(1, q);
    }

    private boolean maySay(int p, int word) {
        if (word == NONE) {
            return true;
        }
        int syllables = held.grammar.lengthOf(word);
        return syllables != NONE && syllables <= now.breath[p] && !now.wasSaid(word);
    }

    private int drawnWord(int p, int other) {
        if (draws.next(100) < held.speakers.cough[p]) {
            return NONE;
        }
        int syllables = held.grammar.longestWithin(now.breath[p]);
        if (syllables == 0) {
            return NONE;
        }
        int word = held.grammar.leastWord[syllables];
        return (word == other || now.wasSaid(word)) ? NONE : word;
    }

    /**
     * What a side has by a choice (bit 0: side 0 speaks, bit 1: side 1 does). One who bears no word
     * at all needs no case of his own: to speak with length 0 only costs him, so he never does.
     */
    private int gainOf(int side, int choice, int p, int q) {
        int speaks0 = choice & 1;
        int speaks1 = (choice >> 1) & 1;
        int syllables0 = speaks0 * held.grammar.longestWithin(now.breath[p]);
        int syllables1 = speaks1 * held.grammar.longestWithin(now.breath[q]);
        int way = held.wayOf(p, syllables0, q, syllables1);
        return side == 0 ? -way - speaks0 : way - speaks1;
    }

    /** Stems, endings and what they make; its word tables are counted once a feast. */
    private static final class Grammar {
        private static final int MOST_STEMS = 6;
        private static final int MOST_ENDINGS = 4;
        private static final int MOST_BARS = 6;
        private static final int MOST_IN_WORD = 4;
        /** Four stems of 9 syllables and an ending of 5. */
        private static final int LONGEST = 41;

        private final int[] stemSyllables = new int[MOST_STEMS];
        private final int[] endingSyllables = new int[MOST_ENDINGS];
        /** Bit t of barred[s]: stem t may not stand right behind stem s. */
        private final int[] barred = new int[MOST_STEMS];
        private final int[] wordsOf = new int[LONGEST + 1];
        private final int[] leastWord = new int[LONGEST + 1];
        private final int[] longestBy = new int[LONGEST + 1];
        private int mostStems;
        private int mud;
        private int stems;
        private int endings;
        private int bars;

        private void clear() {
            mostStems = 0;
            mud = 0;
            stems = 0;
            endings = 0;
            bars = 0;
            Arrays.fill(barred, 0);
        }

        private void addStem(int syllables) {
            if (stems < MOST_STEMS) {
                stemSyllables[stems] = syllables;
                stems++;
            }
        }

        private void addEnding(int syllables) {
            if (endings < MOST_ENDINGS) {
                endingSyllables[endings] = syllables;
                endings++;
            }
        }

        private void bar(int s, int t) {
            barred[s] |= 1 << t;
            bars++;
        }

        private boolean isBarred(int s, int t) {
            return ((barred[s] >> t) & 1) == 1;
        }

        private void countWords() {
            Arrays.fill(wordsOf, 0);
            Arrays.fill(leastWord, 0);
            for (int s = 0; s < stems; s++) {
                growFrom(this, 1, s, s + 1, stemSyllables[s]);
            }
            for (int b = 1; b <= LONGEST; b++) {
                longestBy[b] = wordsOf[b] > 0 ? b : longestBy[b - 1];
            }
        }

        /** Enters a run of stems, alone and with each ending, and all that begin with it. */
        private static void growFrom(Grammar g, int depth, int last, int run, int syllables) {
            if (depth > g.mostStems || depth > MOST_IN_WORD) {
                return;
            }
            g.enter(run * 10, syllables);
            for (int e = 0; e < g.endings; e++) {
                g.enter(run * 10 + e + 1, syllables + g.endingSyllables[e]);
            }
            for (int s = 0; s < g.stems; s++) {
                if (!g.isBarred(last, s)) {
                    growFrom(g, depth + 1, s, run * 10 + s + 1, syllables + g.stemSyllables[s]);
                }
            }
        }

        private void enter(int word, int syllables) {
            if (syllables > LONGEST) {
                return;
            }
            wordsOf[syllables]++;
            if (leastWord[syllables] == 0 || word < leastWord[syllables]) {
                leastWord[syllables] = word;
            }
        }

        /** NONE: it is not good. */
        private int lengthOf(int word) {
            if (word < 0 || word % 10 > endings) {
                return NONE;
            }
            int syllables = word % 10 == 0 ? 0 : endingSyllables[word % 10 - 1];
            int rest = word / 10;
            if (rest == 0) {
                return NONE;
            }
            int behind = NONE;
            for (int k = 0; k < mostStems && rest > 0; k++) {
                int s = rest % 10 - 1;
                if (s < 0 || s >= stems || (behind != NONE && isBarred(s, behind))) {
                    return NONE;
                }
                syllables += stemSyllables[s];
                behind = s;
                rest /= 10;
            }
            return rest == 0 ? syllables : NONE;
        }

        private int syllablesOf(int word) {
            return word == NONE ? 0 : lengthOf(word);
        }

        /** 0: there is none. */
        private int longestWithin(int b) {
            return b < 0 ? 0 : longestBy[Math.min(b, LONGEST)];
        }

        /** Bit l: a word of l syllables, or silence, within a breath. */
        private long lengthsWithin(int breath) {
            long set = 1;
            for (int l = 1; l <= breath && l <= LONGEST; l++) {
                if (wordsOf[l] > 0) {
                    set |= 1L << l;
                }
            }
            return set;
        }

        private int pullOf(int longerBy, int weight) {
            if (longerBy <= 0) {
                return 0;
            }
            return Math.max(0, longerBy * (10 + weight / 10) / 10 - mud);
        }
    }

    /** All who may speak, as they were told. */
    private static final class Speakers {
        private final int[] side = new int[MOST_SPEAKERS];
        private final int[] breath = new int[MOST_SPEAKERS];
        private final int[] weight = new int[MOST_SPEAKERS];
        private final int[] cough = new int[MOST_SPEAKERS];
        private int count;

        private void add(int ofSide, int ofBreath, int ofWeight, int ofCough) {
            if (count < MOST_SPEAKERS) {
                side[count] = ofSide;
                breath[count] = ofBreath;
                weight[count] = ofWeight;
                cough[count] = ofCough;
                count++;
            }
        }

        private boolean isOf(int ofSide, int p) {
            return p >= 0 && p < count && side[p] == ofSide;
        }

        private int countOf(int ofSide) {
            int found = 0;
            for (int p = 0; p < count; p++) {
                if (side[p] == ofSide) {
                    found++;
                }
            }
            return found;
        }

        /** The k-th of a side; the first speaker of all, if a side has not so many. */
        private int nthOf(int ofSide, int k) {
            int found = 0;
            for (int p = 0; p < count; p++) {
                if (side[p] == ofSide) {
                    if (found == k) {
                        return p;
                    }
                    found++;
                }
            }
            return 0;
        }

        private int weightOfSide(int ofSide) {
            int sum = 0;
            for (int p = 0; p < count; p++) {
                if (side[p] == ofSide) {
                    sum += weight[p];
                }
            }
            return sum;
        }

        /** By how much the weights of a set and of all others differ. */
        private int differenceBy(int set) {
            int more = 0;
            for (int p = 0; p < count; p++) {
                more += ((set >> p) & 1) == 1 ? weight[p] : -weight[p];
            }
            return Math.abs(more);
        }

        private int fairestHalf() {
            int best = NONE;
            int least = 0;
            for (int set = 0; set < 1 << count; set++) {
                if (Integer.bitCount(set) == (count + 1) / 2) {
                    int difference = differenceBy(set);
                    if (best == NONE || difference < least) {
                        best = set;
                        least = difference;
                    }
                }
            }
            return best;
        }

        private int oddsOfNoCough(int set) {
            long odds = BILLION;
            for (int p = 0; p < count; p++) {
                if (((set >> p) & 1) == 1) {
                    odds = odds * (100 - cough[p]) / 100;
                }
            }
            return (int) odds;
        }

        private int leastWorth(int ofSide) {
            int best = NONE;
            int least = 0;
            for (int p = 0; p < count; p++) {
                int worth = weight[p] * (100 - cough[p]);
                if (side[p] == ofSide && (best == NONE || worth < least)) {
                    best = p;
                    least = worth;
                }
            }
            return best;
        }
    }

    /** What a text tells: section 1 of the document. */
    private static final class Feast {
        private final Grammar grammar = new Grammar();
        private final Speakers speakers = new Speakers();

        private void clear() {
            grammar.clear();
            speakers.count = 0;
        }

        /** How far the rope is pulled, above 0 to side 1, by p of side 0 and q of side 1. */
        private int wayOf(int p, int syllables0, int q, int syllables1) {
            if (syllables1 > syllables0) {
                return grammar.pullOf(syllables1 - syllables0, speakers.weight[q]);
            }
            return -grammar.pullOf(syllables0 - syllables1, speakers.weight[p]);
        }

        /** Whether p of side 0 and q of side 1, not out of breath, can move the rope by just d. */
        private boolean couldMove(int p, int q, int d) {
            if (d == 0) {
                return true; // both may have been silent
            }
            int puller = d > 0 ? q : p;
            int other = d > 0 ? p : q;
            long longer = grammar.lengthsWithin(speakers.breath[puller]);
            long shorter = grammar.lengthsWithin(speakers.breath[other]);
            for (int by = 1; by <= Grammar.LONGEST; by++) {
                boolean fits = grammar.pullOf(by, speakers.weight[puller]) == Math.abs(d);
                if (fits && ((longer >>> by) & shorter) != 0) {
                    return true;
                }
            }
            return false;
        }
    }

    /** The text as it is fed, and how it is read up to its first fault. */
    private static final class Text {
        private static final int NO_FAULT = 0;
        private static final int MISPLACED = 1;
        private static final int BAD_NUMBER = 2;
        private static final int TOO_MANY = 3;
        private static final int TWICE = 4;
        private static final int MOST_FIGURES = 3;

        private final char[] letters = new char[MOST_LETTERS];
        private int size;
        private int at;
        private int numberAt;
        private int fault = NO_FAULT;
        private int faultAt = NONE;

        private void add(int letter) {
            if (size < MOST_LETTERS) {
                letters[size] = (char) letter;
                size++;
            }
        }

        /** Empties the text; with a fault the feast is not to be used. */
        private void readInto(Feast feast) {
            at = 0;
            fault = NO_FAULT;
            faultAt = NONE;
            feast.clear();
            skipBlanks();
            for (int i = 0; i < MOST_LETTERS && at < size && fault == NO_FAULT; i++) {
                readClause(feast, letters[at]);
                skipBlanks();
            }
            size = 0;
        }

        private void readClause(Feast feast, char word) {
            if (feast.grammar.mostStems == 0 && word != 'g') {
                fail(MISPLACED, at);
                return;
            }
            switch (word) {
                case 'g': readGrammar(feast.grammar); break;
                case 's': readStem(feast.grammar); break;
                case 'e': readEnding(feast.grammar); break;
                case 'p': readSpeaker(feast.speakers); break;
                case 'n': readBar(feast.grammar); break;
                default: fail(MISPLACED, at);
            }
        }

        private void readGrammar(Grammar grammar) {
            readWord(grammar.mostStems == 0);
            int mostStems = readNumber(1, Grammar.MOST_IN_WORD);
            int mud = readNumber(0, 9);
            readEnd();
            if (fault == NO_FAULT) {
                grammar.mostStems = mostStems;
                grammar.mud = mud;
            }
        }

        private void readStem(Grammar grammar) {
            readWord(grammar.stems < Grammar.MOST_STEMS);
            int syllables = readNumber(1, 9);
            readEnd();
            if (fault == NO_FAULT) {
                grammar.addStem(syllables);
            }
        }

        private void readEnding(Grammar grammar) {
            readWord(grammar.endings < Grammar.MOST_ENDINGS);
            int syllables = readNumber(1, 5);
            readEnd();
            if (fault == NO_FAULT) {
                grammar.addEnding(syllables);
            }
        }

        private void readSpeaker(Speakers speakers) {
            readWord(speakers.count < MOST_SPEAKERS);
            int side = readNumber(0, 1);
            int breath = readNumber(1, 40);
            int weight = readNumber(0, 99);
            int cough = readNumber(0, 100);
            readEnd();
            if (fault == NO_FAULT) {
                speakers.add(side, breath, weight, cough);
            }
        }

        private void readBar(Grammar grammar) {
            readWord(grammar.bars < Grammar.MOST_BARS);
            int ahead = readNumber(0, grammar.stems - 1);
            int behind = readNumber(0, grammar.stems - 1);
            if (fault == NO_FAULT && grammar.isBarred(ahead, behind)) {
                fail(TWICE, numberAt);
            }
            readEnd();
            if (fault == NO_FAULT) {
                grammar.bar(ahead, behind);
            }
        }

        private void readWord(boolean hasRoom) {
            if (!hasRoom) {
                fail(TOO_MANY, at);
            }
            at++;
        }

        private int readNumber(int low, int high) {
            skipBlanks();
            numberAt = at;
            int value = 0;
            for (int i = at; i < size && letters[i] >= '0' && letters[i] <= '9'; i++) {
                if (i - numberAt < MOST_FIGURES) {
                    value = value * 10 + letters[i] - '0';
                }
                at = i + 1;
            }
            if (at == numberAt) {
                fail(MISPLACED, at);
            } else if (at - numberAt > MOST_FIGURES || value < low || value > high) {
                fail(BAD_NUMBER, numberAt);
            }
            return value;
        }

        private void readEnd() {
            skipBlanks();
            if (at >= size || letters[at] != ';') {
                fail(MISPLACED, at);
            }
            at++;
        }

        private void skipBlanks() {
            for (int i = at; i < size && letters[i] == ' '; i++) {
                at = i + 1;
            }
        }

        /** Reading goes on to the end of a clause, so only the first fault is kept. */
        private void fail(int number, int place) {
            if (fault == NO_FAULT) {
                fault = number;
                faultAt = place;
            }
        }
    }

    /** All that rounds change: section 2 of the document. */
    private static final class Standing {
        private static final int MOST_WORDS = 40;

        private final int[] breath = new int[MOST_SPEAKERS];
        private final int[] words = new int[MOST_WORDS];
        private int wordCount;
        private int rope;
        private int rounds;

        private void begin(Speakers speakers) {
            System.arraycopy(speakers.breath, 0, breath, 0, MOST_SPEAKERS);
            wordCount = 0;
            rope = 0;
            rounds = 0;
        }

        private void copyFrom(Standing other) {
            System.arraycopy(other.breath, 0, breath, 0, MOST_SPEAKERS);
            System.arraycopy(other.words, 0, words, 0, MOST_WORDS);
            wordCount = other.wordCount;
            rope = other.rope;
            rounds = other.rounds;
        }

        private boolean wasSaid(int word) {
            for (int k = 0; k < wordCount; k++) {
                if (words[k] == word) {
                    return true;
                }
            }
            return false;
        }

        /** A round that was found to be allowed: how far the rope went. */
        private int play(Feast feast, int p, int v, int q, int w) {
            int syllables0 = feast.grammar.syllablesOf(v);
            int syllables1 = feast.grammar.syllablesOf(w);
            int was = rope;
            int pulled = rope + feast.wayOf(p, syllables0, q, syllables1);
            rope = Math.max(-ROPE_END, Math.min(ROPE_END, pulled));
            breath[p] -= syllables0;
            breath[q] -= syllables1;
            restAllBut(feast.speakers, v == NONE ? NONE : p, w == NONE ? NONE : q);
            remember(v);
            remember(w);
            rounds++;
            return rope - was;
        }

        private void restAllBut(Speakers speakers, int p, int q) {
            for (int i = 0; i < speakers.count; i++) {
                if (i != p && i != q && breath[i] < speakers.breath[i]) {
                    breath[i]++;
                }
            }
        }

        private void remember(int word) {
            if (word == NONE) {
                return;
            }
            if (wordCount >= MOST_WORDS) {
                System.arraycopy(words, 1, words, 0, MOST_WORDS - 1);
                wordCount = MOST_WORDS - 1;
            }
            words[wordCount] = word;
            wordCount++;
        }
    }

    /** What can be undone: a ring, so that the oldest is lost when it is full. */
    private static final class Past {
        private static final int MOST = 20;

        private final Standing[] ring = new Standing[MOST];
        private int first;
        private int count;

        private Past() {
            for (int i = 0; i < MOST; i++) {
                ring[i] = new Standing();
            }
        }

        private void forget() {
            first = 0;
            count = 0;
        }

        private void push(Standing standing) {
            ring[(first + count) % MOST].copyFrom(standing);
            if (count < MOST) {
                count++;
            } else {
                first = (first + 1) % MOST;
            }
        }

        private void popInto(Standing standing) {
            if (count > 0) {
                count--;
                standing.copyFrom(ring[(first + count) % MOST]);
            }
        }
    }

    private static final class Image {
        private final Standing standing = new Standing();
        private int seed;
        private boolean kept;
    }

    private static final class Draws {
        private int state;

        private int next(int n) {
            state = (int) ((state * 1103515245L + 12345L) & 0x7fffffffL);
            return n <= 0 ? 0 : state / 65536 % n;
        }
    }

    /**
     * The game by turns. What it is worth hangs on the lengths left and the last one alone, and the
     * last one bars one length at most: so for each set the best length and the best without it do.
     */
    private static final class Game {
        private static final int MOST = 10;
        private static final int SETS = 1 << MOST;
        private static final int LOSS = 5;

        private final int[] bestLength = new int[SETS];
        private final int[] best = new int[SETS];
        private final int[] second = new int[SETS];
        /** All sets below it are filled; the empty one is worth 0 as it stands. */
        private int filled = 1;

        private void fillTo(int set) {
            for (int i = filled; i <= set && i < SETS; i++) {
                fill(i);
                filled = i + 1;
            }
        }

        private void fill(int set) {
            bestLength[set] = bestBut(set, 0);
            best[set] = gainBy(set, bestLength[set]);
            second[set] = gainBy(set, bestBut(set, bestLength[set]));
        }

        /** The best length to say of a set but for one; 0: there is none. */
        private int bestBut(int set, int barred) {
            int found = 0;
            int most = 0;
            for (int l = 1; l <= MOST; l++) {
                if (((set >> (l - 1)) & 1) == 1 && l != barred) {
                    int gain = gainBy(set, l);
                    if (found == 0 || gain > most) {
                        found = l;
                        most = gain;
                    }
                }
            }
            return found;
        }

        private int gainBy(int set, int l) {
            return l == 0 ? -LOSS : l - worth(set ^ (1 << (l - 1)), l);
        }

        private int worth(int set, int last) {
            boolean bestIsBarred = last > 0 && bestLength[set] == last + 1;
            return bestIsBarred ? second[set] : best[set];
        }
    }

    /** Rows of all speakers of a side, each in his round, by which most is pulled. */
    private static final class Row {
        private static final int MOST = 6;

        private final int[] members = new int[MOST];
        private final int[][] pulls = new int[MOST][MOST];
        /** The most that those outside a set can pull yet, when the set has spoken. */
        private final int[] mostLeft = new int[1 << MOST];
        private int count;

        private void plan(Feast feast, Standing now, int side, int against) {
            count = 0;
            for (int p = 0; p < feast.speakers.count && count < MOST; p++) {
                if (feast.speakers.side[p] == side) {
                    members[count] = p;
                    fillPulls(feast, p, now.breath[p], against);
                    count++;
                }
            }
            int all = (1 << count) - 1;
            mostLeft[all] = 0;
            for (int spoken = all - 1; spoken >= 0; spoken--) {
                mostLeft[spoken] = mostBehind(spoken);
            }
        }

        /** Each speaks once, so until his round he has rested in every one. */
        private void fillPulls(Feast feast, int p, int breath, int against) {
            for (int i = 0; i < MOST; i++) {
                int rested = Math.min(feast.speakers.breath[p], breath + i);
                int syllables = feast.grammar.longestWithin(rested);
                int longerBy = syllables - Math.max(0, against - i);
                pulls[count][i] = feast.grammar.pullOf(longerBy, feast.speakers.weight[p]);
            }
        }

        private int mostBehind(int spoken) {
            int most = 0;
            for (int j = 0; j < count; j++) {
                if (((spoken >> j) & 1) == 0) {
                    most = Math.max(most, throughMember(spoken, j));
                }
            }
            return most;
        }

        private int throughMember(int spoken, int j) {
            int i = Integer.bitCount(spoken);
            return i >= MOST ? 0 : pulls[j][i] + mostLeft[spoken | (1 << j)];
        }

        private int farthest() {
            return mostLeft[0];
        }

        private int nth(int i) {
            if (i < 0 || i >= count) {
                return NONE;
            }
            int spoken = 0;
            int chosen = 0;
            for (int k = 0; k <= i; k++) {
                chosen = firstOfBest(spoken);
                spoken |= 1 << chosen;
            }
            return members[chosen];
        }

        private int firstOfBest(int spoken) {
            for (int j = 0; j < count; j++) {
                if (((spoken >> j) & 1) == 0 && throughMember(spoken, j) == mostLeft[spoken]) {
                    return j;
                }
            }
            return 0;
        }
    }
}
