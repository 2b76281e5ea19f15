import java.util.Arrays;
import java.util.NoSuchElementException;

/**
 * Notations are told as rows of words and holes with levels; texts are read by all of them at
 * once. The document ../shared/DOC.md says what each call answers.
 */
public final class NotationParse {
    public static final int NONE = -1;

    private static final int MAX_NOTATIONS = 12;
    private static final int MAX_PARTS = 6;
    private static final int MAX_LEVEL = 10;
    private static final int MAX_NOTATION_LEVEL = 9;
    private static final int MAX_BYTES = 200;
    private static final int MAX_WORDS = 30;
    private static final int MAX_WORD_BYTES = 8;
    private static final int MAX_TREES = 1000000;

    // Brackets and atoms are rules like the notations; with these two numbers and the notations
    // behind them, a rule's number less FIRST_NOTATION is what node() tells of it.
    private static final int BRACKET = 0;
    private static final int ATOM = 1;
    private static final int FIRST_NOTATION = 2;
    private static final int MAX_RULES = FIRST_NOTATION + MAX_NOTATIONS;

    // A dot stands ahead of each part of a rule and behind the last: rule r has the dots from
    // r * DOTS_A_RULE on.
    private static final int DOTS_A_RULE = MAX_PARTS + 1;
    private static final int MAX_DOTS = MAX_RULES * DOTS_A_RULE;

    // No word has a byte 0 or 255, so these two are never a word's bytes.
    private static final long ANY_ATOM = 0L;
    private static final long NO_WORD = -1L;

    private static final int FAULT_OF_NOTATIONS = 1;
    private static final int FAULT_OF_WORDS = 2;

    private final Grammar grammar;
    private final Text text;
    private final Chart chart;
    private final Tree tree;
    private final Output output;
    private int faultKind;
    private int faultPlace;

    public NotationParse() {
        grammar = new Grammar();
        text = new Text();
        chart = new Chart(grammar);
        tree = new Tree(grammar, chart);
        output = new Output();
        faultKind = 0;
        faultPlace = NONE;
    }

    public int hole(int level) throws IllegalArgumentException, IllegalStateException {
        if (level < 0 || level > MAX_LEVEL) {
            throw new IllegalArgumentException("a hole's level is 0 to 10");
        }
        if (grammar.handEndsInHole()) {
            throw new IllegalArgumentException("a hole stands just ahead");
        }
        if (grammar.inHand >= MAX_PARTS) {
            throw new IllegalStateException("there are 6 parts in hand");
        }
        return grammar.takePart(level, NO_WORD);
    }

    public int word(long bytes, int n) throws IllegalArgumentException, IllegalStateException {
        if (!Spelling.isSpelled(bytes, n)) {
            throw new IllegalArgumentException("it is no word");
        }
        long code = Spelling.lowBytes(bytes, n);
        if (code == '(' || code == ')') {
            throw new IllegalArgumentException("( and ) are no words of notations");
        }
        if (grammar.inHand >= MAX_PARTS) {
            throw new IllegalStateException("there are 6 parts in hand");
        }
        return grammar.takePart(NONE, code);
    }

    public int notation(int level) throws IllegalArgumentException, IllegalStateException {
        if (level < 0 || level > MAX_NOTATION_LEVEL || !grammar.handHasWord()) {
            grammar.dropHand();
            throw new IllegalArgumentException("a level is 0 to 9 and one part is a word");
        }
        if (grammar.rules >= MAX_RULES) {
            throw new IllegalStateException("there are 12 notations");
        }
        tree.fell();
        return grammar.makeRule(level) - FIRST_NOTATION;
    }

    public boolean put(long bytes, int n) {
        if (n < 1 || n > MAX_WORD_BYTES || n > MAX_BYTES - text.size) {
            return false;
        }
        text.append(bytes, n);
        return true;
    }

    public void clear() {
        text.size = 0;
    }

    public int read() throws IllegalArgumentException {
        tree.fell();
        text.cut(grammar);
        findFault();
        if (faultKind != 0) {
            throw new IllegalArgumentException("the text has a fault");
        }
        int trees = chart.countTrees(text.words);
        if (trees == 1) {
            tree.grow(text.words);
        }
        return trees;
    }

    private void findFault() {
        int good = chart.follow(text.tokens, text.words);
        if (good < text.words) {
            noteFault(FAULT_OF_NOTATIONS, text.places[good]);
        } else if (text.wrongPlace != NONE) {
            noteFault(FAULT_OF_WORDS, text.wrongPlace);
        } else if (!chart.isWhole(text.words)) {
            noteFault(FAULT_OF_NOTATIONS, text.size);
        } else {
            noteFault(0, NONE);
        }
    }

    private void noteFault(int kind, int place) {
        faultKind = kind;
        faultPlace = place;
    }

    public int fault(int what) {
        switch (what) {
            case 0:
                return faultKind;
            case 1:
                return faultPlace;
            default:
                return NONE;
        }
    }

    public int node(int i, int what) throws NoSuchElementException {
        if (i < 0 || i >= tree.size) {
            throw new NoSuchElementException("no such node");
        }
        switch (what) {
            case 0:
                return tree.rules[i] - FIRST_NOTATION;
            case 1:
                return tree.children[i];
            case 2:
                return text.places[tree.firsts[i]];
            case 3:
                return tree.lengths[i];
            case 4:
                return tree.holders[i];
            default:
                return NONE - 2;
        }
    }

    public int print() throws NoSuchElementException {
        if (tree.size == 0) {
            throw new NoSuchElementException("there is no tree");
        }
        output.writeWords(text, tree.needlessBrackets());
        return output.size;
    }

    public int at(int i) {
        return i < 0 || i >= output.size ? NONE : output.bytes[i];
    }

    public boolean isKey(long bytes, int n) {
        return Spelling.isSpelled(bytes, n) && grammar.hasKey(Spelling.lowBytes(bytes, n));
    }

    public int about(int what) {
        switch (what) {
            case 0:
                return grammar.rules - FIRST_NOTATION;
            case 1:
                return grammar.inHand;
            case 2:
                return text.size;
            case 3:
                return tree.size;
            case 4:
                return output.size;
            default:
                return NONE;
        }
    }

    /** How words are spelled. A word's code is its bytes in one number, the last byte lowest. */
    private static final class Spelling {
        static final int NOTHING = 0;
        static final int SPACE = 1;
        static final int LETTER = 2;
        static final int DIGIT = 3;
        static final int SIGN = 4;
        static final int LONE = 5;
        private static final String SIGNS = "!#$%&*+-./:<=>?@^|~";
        private static final String LONE_SIGNS = "()[]{},;";

        static int kindOf(int b) {
            if (b == ' ' || b == '\n') {
                return SPACE;
            }
            if (b >= 'a' && b <= 'z' || b >= 'A' && b <= 'Z') {
                return LETTER;
            }
            if (b >= '0' && b <= '9') {
                return DIGIT;
            }
            if (SIGNS.indexOf((char) b) >= 0) {
                return SIGN;
            }
            return LONE_SIGNS.indexOf((char) b) >= 0 ? LONE : NOTHING;
        }

        static int byteOf(long bytes, int fromLowest) {
            return (int) (bytes >>> (8 * fromLowest)) & 255;
        }

        static long lowBytes(long bytes, int n) {
            return n >= MAX_WORD_BYTES ? bytes : bytes & ((1L << (8 * n)) - 1);
        }

        /** Whether n is 1 to 8 and the n lowest bytes are one word. */
        static boolean isSpelled(long bytes, int n) {
            if (n < 1 || n > MAX_WORD_BYTES) {
                return false;
            }
            int kind = kindOf(byteOf(bytes, 0));
            if (kind == NOTHING || kind == SPACE || kind == LONE && n > 1) {
                return false;
            }
            for (int k = 1; k < n; k++) {
                if (kindOf(byteOf(bytes, k)) != kind) {
                    return false;
                }
            }
            return true;
        }
    }

    /** The rules: brackets, atoms and the notations; and the parts in hand. */
    private static final class Grammar {
        // The parts in hand stand where the next rule will be, so there is a row more than rules.
        final int[] holes = new int[MAX_DOTS + DOTS_A_RULE];
        final long[] words = new long[MAX_DOTS + DOTS_A_RULE];
        final int[] levels = new int[MAX_RULES];
        final int[] lengths = new int[MAX_RULES];
        int rules = FIRST_NOTATION;
        int inHand = 0;

        Grammar() {
            Arrays.fill(holes, NONE);
            Arrays.fill(words, NO_WORD);
            words[BRACKET * DOTS_A_RULE] = '(';
            holes[BRACKET * DOTS_A_RULE + 1] = 0;
            words[BRACKET * DOTS_A_RULE + 2] = ')';
            lengths[BRACKET] = 3;
            levels[BRACKET] = MAX_LEVEL;
            words[ATOM * DOTS_A_RULE] = ANY_ATOM;
            lengths[ATOM] = 1;
            levels[ATOM] = MAX_LEVEL;
        }

        int usedDots() {
            return rules * DOTS_A_RULE;
        }

        int lastDot(int rule) {
            return rule * DOTS_A_RULE + lengths[rule];
        }

        boolean handEndsInHole() {
            return inHand > 0 && holes[usedDots() + inHand - 1] != NONE;
        }

        boolean handHasWord() {
            for (int k = 0; k < inHand; k++) {
                if (words[usedDots() + k] != NO_WORD) {
                    return true;
                }
            }
            return false;
        }

        int takePart(int level, long code) {
            holes[usedDots() + inHand] = level;
            words[usedDots() + inHand] = code;
            inHand++;
            return inHand;
        }

        void dropHand() {
            Arrays.fill(holes, usedDots(), usedDots() + DOTS_A_RULE, NONE);
            Arrays.fill(words, usedDots(), usedDots() + DOTS_A_RULE, NO_WORD);
            inHand = 0;
        }

        int makeRule(int level) {
            int rule = rules;
            levels[rule] = level;
            lengths[rule] = inHand;
            rules++;
            inHand = 0;
            return rule;
        }

        boolean hasKey(long code) {
            for (int dot = FIRST_NOTATION * DOTS_A_RULE; dot < usedDots(); dot++) {
                if (words[dot] == code) {
                    return true;
                }
            }
            return false;
        }
    }

    /** The text's bytes, and the words of the latest read text, which outlive put and clear. */
    private static final class Text {
        final byte[] bytes = new byte[MAX_BYTES];
        int size = 0;
        final long[] codes = new long[MAX_WORDS];
        final long[] tokens = new long[MAX_WORDS];
        final int[] places = new int[MAX_WORDS];
        int words = 0;
        int wrongPlace = NONE;

        void append(long more, int n) {
            for (int k = n - 1; k >= 0; k--) {
                bytes[size] = (byte) Spelling.byteOf(more, k);
                size++;
            }
        }

        /** Cuts the bytes into words, up to the first place where there is a fault of words. */
        void cut(Grammar grammar) {
            words = 0;
            wrongPlace = NONE;
            int place = 0;
            for (int turn = 0; turn < size && place < size && wrongPlace == NONE; turn++) {
                int kind = kindAt(place);
                int end = endOfRow(place, kind);
                if (kind != Spelling.SPACE) {
                    takeRow(place, end, kind, grammar);
                }
                place = end;
            }
        }

        private int kindAt(int place) {
            return Spelling.kindOf(bytes[place] & 255);
        }

        private int endOfRow(int place, int kind) {
            int end = place + 1;
            if (kind != Spelling.LONE) {
                while (end < size && kindAt(end) == kind) {
                    end++;
                }
            }
            return end;
        }

        private void takeRow(int place, int end, int kind, Grammar grammar) {
            boolean tooLong = end - place > MAX_WORD_BYTES;
            if (kind == Spelling.NOTHING || tooLong || words >= MAX_WORDS) {
                wrongPlace = place;
                return;
            }
            long code = 0;
            for (int i = place; i < end; i++) {
                code = code << 8 | bytes[i] & 255;
            }
            boolean canBeAtom = kind == Spelling.LETTER || kind == Spelling.DIGIT;
            codes[words] = code;
            tokens[words] = canBeAtom && !grammar.hasKey(code) ? ANY_ATOM : code;
            places[words] = place;
            words++;
        }
    }

    /**
     * Earley's chart of the words: which dots of which rules are reached behind each word, and the
     * places where those rules began. Every hole can be filled by an atom, so that whatever is
     * reached can be ended, and words can't go on just where nothing is reached.
     */
    private static final class Chart {
        private final Grammar grammar;
        // For place j and a dot: the bits of the places where the rule began.
        private final int[] origins = new int[(MAX_WORDS + 1) * MAX_DOTS];
        // For place j and a dot: in how many ways it is reached from the origin at work. Told only
        // where origins has that origin's bit.
        private final int[] ways = new int[(MAX_WORDS + 1) * MAX_DOTS];
        // For the words from i to j and a level: how many trees they have as a term of the level.
        private final int[] trees = new int[MAX_WORDS * (MAX_WORDS + 1) / 2 * (MAX_LEVEL + 1)];

        Chart(Grammar grammar) {
            this.grammar = grammar;
        }

        /** How many of the first n words some text that has a tree begins with. */
        int follow(long[] tokens, int n) {
            emptyRow(0);
            predict(0, 0);
            for (int j = 0; j < n; j++) {
                emptyRow(j + 1);
                if (!scan(j, tokens[j])) {
                    return j;
                }
                complete(j + 1);
                predict(j + 1, leastWanted(j + 1));
            }
            return n;
        }

        /** Whether the first n words, all of them followed, are a text that has a tree. */
        boolean isWhole(int n) {
            return highestTerm(0, n) != NONE;
        }

        private void emptyRow(int j) {
            Arrays.fill(origins, j * MAX_DOTS, (j + 1) * MAX_DOTS, 0);
        }

        private boolean isReached(int i, int j, int dot) {
            return (origins[j * MAX_DOTS + dot] >>> i & 1) != 0;
        }

        private boolean scan(int j, long token) {
            int row = j * MAX_DOTS;
            int nextRow = row + MAX_DOTS;
            boolean found = false;
            for (int dot = 0; dot < grammar.usedDots(); dot++) {
                if (origins[row + dot] != 0 && grammar.words[dot] == token) {
                    origins[nextRow + dot + 1] = origins[row + dot];
                    found = true;
                }
            }
            return found;
        }

        // From the right to the left: what ends in a term from i to j was reached before i comes,
        // as a rule with a hole in front has a word behind it and is not at its end then.
        private void complete(int j) {
            for (int i = j - 1; i >= 0; i--) {
                int highest = highestTerm(i, j);
                if (highest != NONE) {
                    fillHoles(i, j, highest);
                }
            }
        }

        private int highestTerm(int i, int j) {
            int highest = NONE;
            for (int rule = 0; rule < grammar.rules; rule++) {
                if (grammar.levels[rule] > highest && isReached(i, j, grammar.lastDot(rule))) {
                    highest = grammar.levels[rule];
                }
            }
            return highest;
        }

        private void fillHoles(int i, int j, int highest) {
            int row = i * MAX_DOTS;
            int nextRow = j * MAX_DOTS;
            for (int dot = 0; dot < grammar.usedDots(); dot++) {
                int level = grammar.holes[dot];
                if (level != NONE && level <= highest) {
                    origins[nextRow + dot + 1] |= origins[row + dot];
                }
            }
        }

        private int leastWanted(int j) {
            int least = MAX_LEVEL + 1;
            for (int dot = 0; dot < grammar.usedDots(); dot++) {
                int level = grammar.holes[dot];
                if (level != NONE && level < least && origins[j * MAX_DOTS + dot] != 0) {
                    least = level;
                }
            }
            return least;
        }

        // A rule that begins with a hole may want a lower level than the one it is wanted for.
        private void predict(int j, int wanted) {
            int least = wanted;
            boolean lower = true;
            for (int turn = 0; turn <= MAX_LEVEL && lower; turn++) {
                int before = least;
                least = leastFirstHole(before);
                lower = least < before;
            }
            for (int rule = 0; rule < grammar.rules; rule++) {
                if (grammar.levels[rule] >= least) {
                    origins[j * MAX_DOTS + rule * DOTS_A_RULE] = 1 << j;
                }
            }
        }

        private int leastFirstHole(int wanted) {
            int least = wanted;
            for (int rule = FIRST_NOTATION; rule < grammar.rules; rule++) {
                int level = grammar.holes[rule * DOTS_A_RULE];
                if (grammar.levels[rule] >= wanted && level != NONE && level < least) {
                    least = level;
                }
            }
            return least;
        }

        /** How many trees the first n words have, that are followed and whole. */
        int countTrees(int n) {
            for (int i = n - 1; i >= 0; i--) {
                // An atom can begin wherever anything can.
                if (isReached(i, i, ATOM * DOTS_A_RULE)) {
                    countFrom(i, n);
                }
            }
            return n < 1 ? 0 : trees[cell(0, n, 0)];
        }

        private void countFrom(int i, int n) {
            for (int rule = 0; rule < grammar.rules; rule++) {
                ways[i * MAX_DOTS + rule * DOTS_A_RULE] = 1;
            }
            for (int j = i + 1; j <= n; j++) {
                for (int rule = 0; rule < grammar.rules; rule++) {
                    countRule(rule, i, j);
                }
                sumTerms(i, j);
                countFirstHoles(i, j);
            }
        }

        private void countRule(int rule, int i, int j) {
            int first = rule * DOTS_A_RULE;
            int last = grammar.lastDot(rule);
            for (int dot = first + 1; dot <= last; dot++) {
                if (isReached(i, j, dot)) {
                    int level = grammar.holes[dot - 1];
                    if (level == NONE) {
                        ways[j * MAX_DOTS + dot] = ways[(j - 1) * MAX_DOTS + dot - 1];
                    } else if (dot > first + 1) {
                        ways[j * MAX_DOTS + dot] = countSplits(dot - 1, level, i, j);
                    }
                }
            }
        }

        private int countSplits(int dot, int level, int i, int j) {
            long sum = 0;
            for (int m = i + 1; m < j; m++) {
                if (isReached(i, m, dot)) {
                    sum += (long) ways[m * MAX_DOTS + dot] * trees[cell(m, j, level)];
                }
            }
            return (int) Math.min(sum, MAX_TREES);
        }

        private void sumTerms(int i, int j) {
            int base = cell(i, j, 0);
            for (int level = 0; level <= MAX_LEVEL; level++) {
                trees[base + level] = 0;
            }
            for (int rule = 0; rule < grammar.rules; rule++) {
                int last = grammar.lastDot(rule);
                if (isReached(i, j, last)) {
                    addTrees(base + grammar.levels[rule], ways[j * MAX_DOTS + last]);
                }
            }
            for (int level = MAX_LEVEL - 1; level >= 0; level--) {
                addTrees(base + level, trees[base + level + 1]);
            }
        }

        private void addTrees(int cell, int more) {
            trees[cell] = Math.min(trees[cell] + more, MAX_TREES);
        }

        private void countFirstHoles(int i, int j) {
            for (int rule = 0; rule < grammar.rules; rule++) {
                int first = rule * DOTS_A_RULE;
                int level = grammar.holes[first];
                if (level != NONE) {
                    ways[j * MAX_DOTS + first + 1] = trees[cell(i, j, level)];
                }
            }
        }

        // The spans are told by their ends, then their beginnings: 0 <= i < j <= MAX_WORDS.
        private int cell(int i, int j, int level) {
            return (j * (j - 1) / 2 + i) * (MAX_LEVEL + 1) + level;
        }

        /** The rule of the only tree of the words from i to j as a term of the level. */
        int onlyRule(int i, int j, int level) {
            for (int rule = grammar.rules - 1; rule > BRACKET; rule--) {
                if (grammar.levels[rule] >= level && isReached(i, j, grammar.lastDot(rule))) {
                    return rule;
                }
            }
            return BRACKET;
        }

        /** Where what fills the hole at the dot begins, in the only tree: the rule began at i. */
        int onlySplit(int dot, int i, int j) {
            int level = grammar.holes[dot];
            for (int m = j - 1; m > i; m--) {
                if (isReached(i, m, dot) && trees[cell(m, j, level)] > 0) {
                    return m;
                }
            }
            return i;
        }
    }

    /** The nodes of the tree, if there is just one. Each takes a word at least for itself. */
    private static final class Tree {
        private final Grammar grammar;
        private final Chart chart;
        int size = 0;
        final int[] rules = new int[MAX_WORDS];
        final int[] children = new int[MAX_WORDS];
        final int[] firsts = new int[MAX_WORDS];
        final int[] lengths = new int[MAX_WORDS];
        final int[] holders = new int[MAX_WORDS];
        private final int[] wanted = new int[MAX_WORDS];
        // What is still to be grown, the leftmost on top: rows of words that share no word.
        private int waiting = 0;
        private final int[] waitingFrom = new int[MAX_WORDS];
        private final int[] waitingTo = new int[MAX_WORDS];
        private final int[] waitingLevel = new int[MAX_WORDS];
        private final int[] waitingHolder = new int[MAX_WORDS];

        Tree(Grammar grammar, Chart chart) {
            this.grammar = grammar;
            this.chart = chart;
        }

        void fell() {
            size = 0;
        }

        /** Grows the only tree of the n words that the chart has counted. */
        void grow(int n) {
            size = 0;
            waiting = 0;
            await(0, n, 0, NONE);
            for (int node = 0; node < MAX_WORDS && waiting > 0; node++) {
                waiting--;
                growNode(node, waitingFrom[waiting], waitingTo[waiting]);
                size++;
            }
        }

        private void await(int from, int to, int level, int holder) {
            if (waiting < MAX_WORDS) {
                waitingFrom[waiting] = from;
                waitingTo[waiting] = to;
                waitingLevel[waiting] = level;
                waitingHolder[waiting] = holder;
                waiting++;
            }
        }

        private void growNode(int node, int from, int to) {
            rules[node] = chart.onlyRule(from, to, waitingLevel[waiting]);
            firsts[node] = from;
            lengths[node] = to - from;
            holders[node] = waitingHolder[waiting];
            wanted[node] = waitingLevel[waiting];
            children[node] = awaitHoles(node, from, to);
        }

        // From the last part to the first, so that the first hole is grown first.
        private int awaitHoles(int node, int from, int to) {
            int first = rules[node] * DOTS_A_RULE;
            int found = 0;
            int end = to;
            for (int dot = grammar.lastDot(rules[node]) - 1; dot >= first; dot--) {
                int level = grammar.holes[dot];
                int begin = level == NONE ? end - 1 : chart.onlySplit(dot, from, end);
                if (level != NONE) {
                    await(begin, end, level, node);
                    found++;
                }
                end = begin;
            }
            return found;
        }

        /**
         * The bits of the words that are not printed. What has a level below its hole's had to be
         * in brackets in the text too, so the outermost of those are the ones to print; brackets
         * within brackets, or around the whole text, fill no hole: their wanted level is 0.
         */
        int needlessBrackets() {
            int needless = 0;
            for (int i = 0; i < size; i++) {
                if (rules[i] == BRACKET && levelWithin(i) >= wanted[i]) {
                    needless |= 1 << firsts[i] | 1 << (firsts[i] + lengths[i] - 1);
                }
            }
            return needless;
        }

        private int levelWithin(int bracket) {
            int i = bracket;
            while (i < size - 1 && rules[i] == BRACKET) {
                i++;
            }
            return grammar.levels[rules[i]];
        }
    }

    /** What was printed last. */
    private static final class Output {
        // A text's bytes, and a space between each two words.
        final byte[] bytes = new byte[MAX_BYTES + MAX_WORDS];
        int size = 0;

        void writeWords(Text text, int without) {
            size = 0;
            for (int i = 0; i < text.words; i++) {
                if ((without >>> i & 1) == 0) {
                    if (size > 0) {
                        addByte(' ');
                    }
                    writeWord(text.codes[i]);
                }
            }
        }

        private void writeWord(long code) {
            for (int k = MAX_WORD_BYTES - 1; k >= 0; k--) {
                int b = Spelling.byteOf(code, k);
                if (b != 0) {
                    addByte(b);
                }
            }
        }

        private void addByte(int b) {
            if (size < bytes.length) {
                bytes[size] = (byte) b;
                size++;
            }
        }
    }
}
