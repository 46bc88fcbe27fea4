import java.util.Arrays;

/**
 * Reads parsing expression grammars, refuses those that could run for ever, compiles the others
 * for a machine with a stack that looks at the next character before it tries anything, and
 * matches subjects by it or by a matcher that remembers what each rule did at each place: both
 * find the same, with the same tree of captures.
 */
public final class GrammarMachine {

    private static final int NONE = -1;

    private static final int LEAST_CHARACTER = 32;
    private static final int GREATEST_CHARACTER = 126;
    private static final int MOST_TEXT = 50;
    private static final int MOST_SUBJECT = 10;
    private static final int MOST_RULES = 8;
    private static final int MOST_BRACKETS = 6;
    private static final int MOST_TRIES = 1000;

    /** Places of the subject: before each of its characters, and its end. */
    private static final int PLACES = MOST_SUBJECT + 1;

    /** A pair of { and } makes three nodes, the most that two characters of the text can make. */
    private static final int MOST_NODES = 75;

    /** In each of the seven levels of brackets: choice, sequence, sign, repetition, capture; then a row. */
    private static final int MOST_LEVELS = 40;

    /** The piece .+ makes six instructions, the most that two characters of the text can make. */
    private static final int MOST_CODE = 200;

    /** What is open without a character between takes a character of the text each: nothing comes to itself. */
    private static final int MOST_FRAMES = PLACES * MOST_TEXT;

    /** A capture takes two characters of the text, and those that begin at one place are all different. */
    private static final int MOST_CAPTURES = PLACES * MOST_TEXT / 2;

    /** 55 pairs of places, by 104: rules times captures is not more if both have to be in the text. */
    private static final int MOST_KEPT = 55 * 104;

    /** Between two tries no more than some 50000 have room, so 1001 times that is far below. */
    private static final int MOST_STEPS = 1000000000;

    // Kinds of nodes of the tree of a grammar.
    private static final int SET = 0;
    private static final int NAME = 1;
    private static final int SEQUENCE = 2;
    private static final int CHOICE = 3;
    private static final int OPTION = 4;
    private static final int STAR = 5;
    private static final int PLUS = 6;
    private static final int AND = 7;
    private static final int NOT = 8;
    private static final int CAPTURE = 9;

    // Instructions of the machine.
    private static final int TAKE = 0;
    private static final int LOOK = 1;
    private static final int TRY = 2;
    private static final int ENTER = 3;
    private static final int JUMP = 4;
    private static final int COMMIT = 5;
    private static final int RETREAT = 6;
    private static final int REFUSE = 7;
    private static final int CALL = 8;
    private static final int RETURN = 9;
    private static final int OPEN = 10;
    private static final int CLOSE = 11;
    private static final int HALT = 12;

    // What has become of a run.
    private static final int RUNNING = 0;
    private static final int MATCHED = 1;
    private static final int FAILED = 2;
    private static final int GAVE_UP = 3;

    // What the memory knows of a rule at a place, beside where its match ends.
    private static final int UNKNOWN = -2;
    private static final int NO_MATCH = -1;

    private final Row text = new Row(MOST_TEXT);
    private final Row subject = new Row(MOST_SUBJECT);
    private Grammar grammar = new Grammar(text);
    private Grammar spare = new Grammar(text);
    private final Runner runner = new Runner(subject, grammar);
    private boolean compiled = false;
    private boolean matched = false;
    private int reason = NONE;

    public GrammarMachine() {
    }

    public boolean type(char c) {
        return text.append(c);
    }

    public void wipe() {
        text.size = 0;
    }

    public int compile() throws IllegalArgumentException, IllegalStateException, UnsupportedOperationException {
        reason = spare.reader.read();
        if (reason != NONE) {
            throw new IllegalArgumentException("the text is no grammar");
        }
        reason = spare.judge.firstUndefined();
        if (reason != NONE) {
            throw new IllegalStateException("a rule is undefined");
        }
        reason = spare.judge.firstRunaway();
        if (reason != NONE) {
            throw new UnsupportedOperationException("a rule is left recursive or endless");
        }
        spare.judge.settleHeads();
        spare.code.write();
        exchangeGrammars();
        return grammar.tree.rules;
    }

    /** The grammar that was there is read over only by the next text, so that what throws leaves it. */
    private void exchangeGrammars() {
        Grammar old = grammar;
        grammar = spare;
        spare = old;
        compiled = true;
        matched = false;
    }

    public int fault() {
        return reason;
    }

    public boolean empty(char name) throws IllegalStateException, IndexOutOfBoundsException {
        if (!compiled) {
            throw new IllegalStateException("there is no grammar");
        }
        int root = grammar.tree.rootOf(name);
        if (root == NONE) {
            throw new IndexOutOfBoundsException("no rule has this name");
        }
        return grammar.tree.canBeEmpty[root];
    }

    public boolean head(char name, char c) throws IllegalStateException, IndexOutOfBoundsException {
        if (!compiled) {
            throw new IllegalStateException("there is no grammar");
        }
        int root = grammar.tree.rootOf(name);
        if (root == NONE) {
            throw new IndexOutOfBoundsException("no rule has this name");
        }
        return grammar.tree.holds(root, c);
    }

    public boolean feed(char c) {
        boolean fed = subject.append(c);
        if (fed) {
            matched = false;
        }
        return fed;
    }

    public void clear() {
        subject.size = 0;
        matched = false;
    }

    public int match(boolean machine) throws IllegalStateException {
        if (!compiled) {
            throw new IllegalStateException("there is no grammar");
        }
        matched = true;
        return runner.run(grammar, machine);
    }

    public int work() {
        return matched ? runner.effort : -1;
    }

    public int nodes() {
        return matched ? runner.captures.size : -1;
    }

    public int node(int i, int what) throws IndexOutOfBoundsException, IllegalArgumentException {
        if (!matched || i < 0 || i >= runner.captures.size) {
            throw new IndexOutOfBoundsException("there is no such node");
        }
        if (what < 0 || what > 2) {
            throw new IllegalArgumentException("what is 0, 1 or 2");
        }
        if (what == 2) {
            return runner.captures.outerOf(i);
        }
        return what == 0 ? runner.captures.begins[i] : runner.captures.ends[i];
    }

    /** A row of characters with a limit: the text, and the subject. */
    private static final class Row {
        final char[] characters;
        int size = 0;

        Row(int most) {
            characters = new char[most];
        }

        boolean append(char c) {
            if (c < LEAST_CHARACTER || c > GREATEST_CHARACTER || size >= characters.length) {
                return false;
            }
            characters[size] = c;
            size++;
            return true;
        }

        /** NONE behind the end, which is no character, so that nothing that is asked for is found there. */
        int at(int place) {
            return place >= 0 && place < size ? characters[place] : NONE;
        }
    }

    /** All that belongs to one compiled text. */
    private static final class Grammar {
        final Tree tree = new Tree();
        final Judge judge = new Judge(tree);
        final Code code = new Code(tree);
        final Reader reader;

        Grammar(Row text) {
            reader = new Reader(text, tree);
        }
    }

    /**
     * The expressions of a grammar. Each node has a greater number than its parts, and each rule
     * greater ones than the rules before it, so that one way up through the numbers meets parts first.
     */
    private static final class Tree {
        final int[] kinds = new int[MOST_NODES];
        final int[] letters = new int[MOST_NODES];
        final int[] partsFrom = new int[MOST_NODES];
        final int[] partsTo = new int[MOST_NODES];
        final int[] parts = new int[MOST_NODES];
        final boolean[] canBeEmpty = new boolean[MOST_NODES];
        final int[] beginnings = new int[MOST_NODES];
        final long[] lowHeads = new long[MOST_NODES];
        final long[] highHeads = new long[MOST_NODES];
        final int[] ruleNames = new int[MOST_RULES];
        final int[] roots = new int[MOST_RULES];
        int size = 0;
        int partsSize = 0;
        int rules = 0;

        void reset() {
            size = 0;
            partsSize = 0;
            rules = 0;
        }

        int add(int kind, int letter) {
            if (size >= MOST_NODES) {
                return NONE;
            }
            kinds[size] = kind;
            letters[size] = letter;
            partsFrom[size] = partsSize;
            partsTo[size] = partsSize;
            canBeEmpty[size] = false;
            beginnings[size] = 0;
            lowHeads[size] = 0L;
            highHeads[size] = 0L;
            size++;
            return size - 1;
        }

        void givePart(int node, int part) {
            if (node >= 0 && node < size && part >= 0 && part < node && partsSize < MOST_NODES) {
                parts[partsSize] = part;
                partsSize++;
                partsTo[node] = partsSize;
            }
        }

        void addRule(int name, int root) {
            if (rules < MOST_RULES && root >= 0 && root < size) {
                ruleNames[rules] = name;
                roots[rules] = root;
                rules++;
            }
        }

        int ruleOf(int name) {
            for (int rule = 0; rule < rules; rule++) {
                if (ruleNames[rule] == name) {
                    return rule;
                }
            }
            return NONE;
        }

        int rootOf(int name) {
            int rule = ruleOf(name);
            return rule == NONE ? NONE : roots[rule];
        }

        int firstNodeOf(int rule) {
            return rule <= 0 || rule >= rules ? 0 : roots[rule - 1] + 1;
        }

        /** The only part of a node whose kind has one. */
        int partOf(int node) {
            return partsFrom[node] < partsTo[node] ? parts[partsFrom[node]] : 0;
        }

        void include(int node, int least, int greatest) {
            if (node < 0 || node >= size) {
                return;
            }
            for (int bit = least - LEAST_CHARACTER; bit <= greatest - LEAST_CHARACTER; bit++) {
                if (bit < 64) {
                    lowHeads[node] |= 1L << bit;
                } else {
                    highHeads[node] |= 1L << (bit - 64);
                }
            }
        }

        boolean holds(int node, int c) {
            if (node < 0 || node >= size || c < LEAST_CHARACTER || c > GREATEST_CHARACTER) {
                return false;
            }
            int bit = c - LEAST_CHARACTER;
            long here = bit < 64 ? lowHeads[node] >>> bit : highHeads[node] >>> (bit - 64);
            return (here & 1L) != 0L;
        }
    }

    /**
     * Reads the text into a tree. It stops at the first character with which the text is no
     * beginning of a grammar, and stays there: its place is the fault.
     */
    private static final class Reader {
        private final Row text;
        private final Tree tree;
        private final int[] open = new int[MOST_NODES];
        private int opened = 0;
        private int place = 0;
        private boolean wrong = false;

        Reader(Row text, Tree tree) {
            this.text = text;
            this.tree = tree;
        }

        /** The place of the fault, or NONE if the text is a grammar. */
        int read() {
            tree.reset();
            opened = 0;
            place = 0;
            wrong = false;
            readRule();
            for (int more = 1; more < MOST_RULES && !wrong && place < text.size; more++) {
                readRule();
            }
            return wrong || place < text.size ? place : NONE;
        }

        private void readRule() {
            int name = text.at(place);
            if (!isName(name) || tree.ruleOf(name) != NONE) {
                wrong = true;
                return;
            }
            place++;
            need('=');
            readExpression(0);
            need(';');
            if (!wrong) {
                tree.addRule(name, tree.size - 1);
                opened = 0;
            }
        }

        private void readExpression(int brackets) {
            int mark = opened;
            readSequence(brackets);
            for (int more = 0; more < MOST_TEXT && take('/'); more++) {
                readSequence(brackets);
            }
            join(CHOICE, mark);
        }

        private void readSequence(int brackets) {
            int mark = opened;
            for (int more = 0; more < MOST_TEXT && !wrong && beginsPiece(text.at(place)); more++) {
                readPiece(brackets);
            }
            join(SEQUENCE, mark);
        }

        private void readPiece(int brackets) {
            int mark = opened;
            int sign = take('&') ? AND : take('!') ? NOT : NONE;
            readPrimary(brackets);
            if (take('?')) {
                join(OPTION, mark);
            } else if (take('*')) {
                join(STAR, mark);
            } else if (take('+')) {
                join(PLUS, mark);
            }
            if (sign != NONE) {
                join(sign, mark);
            }
        }

        private void readPrimary(int brackets) {
            int c = text.at(place);
            if (isName(c)) {
                place++;
                push(tree.add(NAME, c));
            } else if (take('.')) {
                pushSet(LEAST_CHARACTER, GREATEST_CHARACTER);
            } else if (take('\'')) {
                readRow();
            } else if (take('[')) {
                readClass();
            } else if (brackets < MOST_BRACKETS && take('(')) {
                readExpression(brackets + 1);
                need(')');
            } else if (brackets < MOST_BRACKETS && take('{')) {
                int mark = opened;
                readExpression(brackets + 1);
                need('}');
                join(CAPTURE, mark);
            } else {
                wrong = true;
            }
        }

        /** A row is a sequence of sets of one character each. */
        private void readRow() {
            int mark = opened;
            for (int more = 0; more < MOST_TEXT && text.at(place) != NONE && text.at(place) != '\''; more++) {
                pushSet(text.at(place), text.at(place));
                place++;
            }
            if (opened == mark) {
                wrong = true;
            }
            need('\'');
            join(SEQUENCE, mark);
        }

        private void readClass() {
            int set = tree.add(SET, NONE);
            int items = 0;
            for (; items < MOST_TEXT && text.at(place) != NONE && text.at(place) != ']'; items++) {
                int least = text.at(place);
                int greatest = text.at(place + 2);
                if (text.at(place + 1) == '-' && greatest != ']' && greatest >= least) {
                    tree.include(set, least, greatest);
                    place += 3;
                } else {
                    tree.include(set, least, least);
                    place++;
                }
            }
            if (items == 0) {
                wrong = true;
            }
            need(']');
            push(set);
        }

        private void pushSet(int least, int greatest) {
            int set = tree.add(SET, NONE);
            tree.include(set, least, greatest);
            push(set);
        }

        private void push(int node) {
            if (opened < MOST_NODES) {
                open[opened] = node;
                opened++;
            }
        }

        /** Makes all nodes that were pushed since the mark the parts of a new one, in their order. */
        private void join(int kind, int mark) {
            int node = tree.add(kind, NONE);
            for (int part = mark; part < opened; part++) {
                tree.givePart(node, open[part]);
            }
            opened = mark;
            push(node);
        }

        private boolean take(char c) {
            if (wrong || text.at(place) != c) {
                return false;
            }
            place++;
            return true;
        }

        private void need(char c) {
            if (!take(c)) {
                wrong = true;
            }
        }

        private static boolean isName(int c) {
            return c >= 'A' && c <= 'Z';
        }

        private static boolean beginsPiece(int c) {
            return isName(c) || c == '&' || c == '!' || c == '\'' || c == '[' || c == '.' || c == '(' || c == '{';
        }
    }

    /** Finds what can be empty, with what it begins, which rule is to be refused, and the heads. */
    private static final class Judge {
        private final Tree tree;

        Judge(Tree tree) {
            this.tree = tree;
        }

        /** The name of the first undefined rule, or NONE. */
        int firstUndefined() {
            for (int rule = 0; rule < tree.rules; rule++) {
                if (hasUnknownName(rule)) {
                    return tree.ruleNames[rule];
                }
            }
            return NONE;
        }

        private boolean hasUnknownName(int rule) {
            for (int node = tree.firstNodeOf(rule); node <= tree.roots[rule]; node++) {
                if (tree.kinds[node] == NAME && tree.ruleOf(tree.letters[node]) == NONE) {
                    return true;
                }
            }
            return false;
        }

        /** The name of the first rule that is left recursive or endless, or NONE. */
        int firstRunaway() {
            settleEmptiness();
            settleBeginnings();
            for (int rule = 0; rule < tree.rules; rule++) {
                boolean leftRecursive = (tree.beginnings[tree.roots[rule]] >> rule & 1) != 0;
                if (leftRecursive || isEndless(rule)) {
                    return tree.ruleNames[rule];
                }
            }
            return NONE;
        }

        private boolean isEndless(int rule) {
            for (int node = tree.firstNodeOf(rule); node <= tree.roots[rule]; node++) {
                int kind = tree.kinds[node];
                boolean needsMore = kind == STAR || kind == PLUS || kind == CAPTURE;
                if (needsMore && tree.canBeEmpty[tree.partOf(node)]) {
                    return true;
                }
            }
            return false;
        }

        /**
         * What is asked of names goes from rule to rule, one at least in each pass over the nodes,
         * so that one pass more than there are rules settles it; so it is with the other two.
         */
        private void settleEmptiness() {
            for (int pass = 0; pass <= tree.rules; pass++) {
                for (int node = 0; node < tree.size; node++) {
                    tree.canBeEmpty[node] = isEmptyByParts(node);
                }
            }
        }

        private boolean isEmptyByParts(int node) {
            switch (tree.kinds[node]) {
                case SET:
                    return false;
                case NAME:
                    return tree.canBeEmpty[rootBehind(node)];
                case SEQUENCE:
                    return emptyParts(node) == tree.partsTo[node] - tree.partsFrom[node];
                case CHOICE:
                    return emptyParts(node) > 0;
                case PLUS:
                case CAPTURE:
                    return tree.canBeEmpty[tree.partOf(node)];
                default:
                    return true;
            }
        }

        private int emptyParts(int node) {
            int many = 0;
            for (int part = tree.partsFrom[node]; part < tree.partsTo[node]; part++) {
                if (tree.canBeEmpty[tree.parts[part]]) {
                    many++;
                }
            }
            return many;
        }

        /** The names with which a node begins are a set of rules: a bit for each. */
        private void settleBeginnings() {
            for (int pass = 0; pass <= tree.rules; pass++) {
                for (int node = 0; node < tree.size; node++) {
                    tree.beginnings[node] = beginningsByParts(node);
                }
            }
        }

        private int beginningsByParts(int node) {
            if (tree.kinds[node] == NAME) {
                return tree.beginnings[rootBehind(node)] | 1 << tree.ruleOf(tree.letters[node]);
            }
            int rules = 0;
            for (int part = tree.partsFrom[node]; part < tree.partsTo[node]; part++) {
                rules |= tree.beginnings[tree.parts[part]];
                if (hidesTheRest(node, tree.parts[part])) {
                    return rules;
                }
            }
            return rules;
        }

        void settleHeads() {
            for (int pass = 0; pass <= tree.rules; pass++) {
                for (int node = 0; node < tree.size; node++) {
                    settleHead(node);
                }
            }
        }

        /** A set is its own head, & and ! have none. */
        private void settleHead(int node) {
            int kind = tree.kinds[node];
            if (kind == NAME) {
                addHead(node, rootBehind(node));
            }
            if (kind == SET || kind == NAME || kind == AND || kind == NOT) {
                return;
            }
            for (int part = tree.partsFrom[node]; part < tree.partsTo[node]; part++) {
                addHead(node, tree.parts[part]);
                if (hidesTheRest(node, tree.parts[part])) {
                    return;
                }
            }
        }

        private void addHead(int node, int part) {
            tree.lowHeads[node] |= tree.lowHeads[part];
            tree.highHeads[node] |= tree.highHeads[part];
        }

        private boolean hidesTheRest(int node, int part) {
            return tree.kinds[node] == SEQUENCE && !tree.canBeEmpty[part];
        }

        private int rootBehind(int node) {
            int root = tree.rootOf(tree.letters[node]);
            return root == NONE ? 0 : root;
        }
    }

    /**
     * The instructions for a tree. A frame whose way on is NONE hands a failure to the frame
     * below it; a try that no instruction was aimed for makes such a frame.
     */
    private static final class Code {
        private final Tree tree;
        private final int[] operations = new int[MOST_CODE];
        private final int[] operands = new int[MOST_CODE];
        private final int[] targets = new int[MOST_CODE];
        private final int[] starts = new int[MOST_RULES];
        private int size = 0;

        Code(Tree tree) {
            this.tree = tree;
        }

        int operation(int at) {
            return at >= 0 && at < size ? operations[at] : HALT;
        }

        int operand(int at) {
            return at >= 0 && at < size ? operands[at] : NONE;
        }

        int target(int at) {
            return at >= 0 && at < size ? targets[at] : NONE;
        }

        int start(int rule) {
            return rule >= 0 && rule < tree.rules ? starts[rule] : NONE;
        }

        void write() {
            size = 0;
            add(CALL, 0);
            add(HALT, NONE);
            for (int rule = 0; rule < tree.rules; rule++) {
                starts[rule] = size;
                writeNode(tree.roots[rule], 0);
                add(RETURN, NONE);
            }
        }

        private void writeNode(int node, int level) {
            if (level >= MOST_LEVELS) {
                return;
            }
            int part = tree.partOf(node);
            switch (tree.kinds[node]) {
                case SET:
                    add(TAKE, node);
                    break;
                case NAME:
                    add(CALL, tree.ruleOf(tree.letters[node]));
                    break;
                case SEQUENCE:
                    writeSequence(node, level);
                    break;
                case CHOICE:
                    writeChoice(node, level);
                    break;
                case OPTION:
                    writeOption(part, level);
                    break;
                case STAR:
                    writeLoop(part, level, NONE);
                    break;
                case PLUS:
                    add(ENTER, NONE);
                    writeLoop(part, level, add(JUMP, NONE));
                    break;
                case CAPTURE:
                    writeBetween(OPEN, part, CLOSE, level);
                    break;
                case AND:
                    writeBetween(TRY, part, RETREAT, level);
                    break;
                default:
                    aim(writeBetween(TRY, part, REFUSE, level));
                    break;
            }
        }

        private void writeSequence(int node, int level) {
            for (int part = tree.partsFrom[node]; part < tree.partsTo[node]; part++) {
                writeNode(tree.parts[part], level + 1);
            }
        }

        private void writeChoice(int node, int level) {
            int first = size;
            int last = tree.partsTo[node] - 1;
            for (int part = tree.partsFrom[node]; part <= last; part++) {
                if (part < last) {
                    writeTried(tree.parts[part], level);
                } else {
                    writeNode(tree.parts[part], level + 1);
                }
            }
            aimCommitsFrom(first);
        }

        /** Whether it fails or a look spares it, the way on is behind it; where its commit leads is left open. */
        private void writeTried(int part, int level) {
            int look = writeLook(part);
            int tried = writeBetween(TRY, part, COMMIT, level);
            aim(look);
            aim(tried);
        }

        /** Those of the parts have been aimed before: what is left is of this choice. */
        private void aimCommitsFrom(int first) {
            for (int at = first; at < size; at++) {
                if (operations[at] == COMMIT && targets[at] == NONE) {
                    aim(at);
                }
            }
        }

        private void writeOption(int part, int level) {
            writeTried(part, level);
            aim(size - 1);
        }

        /** The jump, if there is one, leads past the look and the try, which e+ makes from the second time on. */
        private void writeLoop(int part, int level, int jump) {
            int again = size;
            int look = writeLook(part);
            int tried = add(TRY, NONE);
            aim(jump);
            writeNode(part, level + 1);
            int commit = add(COMMIT, NONE);
            aim(look);
            aim(tried);
            if (commit != NONE) {
                targets[commit] = again;
            }
        }

        /** Where the first instruction is. */
        private int writeBetween(int before, int part, int behind, int level) {
            int first = add(before, NONE);
            writeNode(part, level + 1);
            add(behind, NONE);
            return first;
        }

        private int writeLook(int part) {
            return tree.canBeEmpty[part] ? NONE : add(LOOK, part);
        }

        private int add(int operation, int operand) {
            if (size >= MOST_CODE) {
                return NONE;
            }
            operations[size] = operation;
            operands[size] = operand;
            targets[size] = NONE;
            size++;
            return size - 1;
        }

        private void aim(int at) {
            if (at >= 0 && at < size) {
                targets[at] = size;
            }
        }
    }

    /** Captures in the order of their beginnings. */
    private static final class Captures {
        final int[] begins;
        final int[] ends;
        int size = 0;

        Captures(int most) {
            begins = new int[most];
            ends = new int[most];
        }

        void add(int begin, int end) {
            if (size < begins.length) {
                begins[size] = begin;
                ends[size] = end;
                size++;
            }
        }

        void closeLatest(int end) {
            for (int i = size - 1; i >= 0; i--) {
                if (ends[i] == NONE) {
                    ends[i] = end;
                    return;
                }
            }
        }

        void cutTo(int mark) {
            if (mark >= 0 && mark < size) {
                size = mark;
            }
        }

        void addFrom(Captures other, int from, int to) {
            for (int i = from; i < to && i >= 0 && i < other.size; i++) {
                add(other.begins[i], other.ends[i]);
            }
        }

        /** No capture is empty, so one that began before and does not end before is around it. */
        int outerOf(int inner) {
            for (int i = inner - 1; i >= 0; i--) {
                if (ends[i] >= ends[inner]) {
                    return i;
                }
            }
            return NONE;
        }
    }

    /** What each rule did at each place. */
    private static final class Memory {
        private final int[] results = new int[MOST_RULES * PLACES];
        private final int[] keptFrom = new int[MOST_RULES * PLACES];
        private final int[] keptTo = new int[MOST_RULES * PLACES];
        private final Captures kept = new Captures(MOST_KEPT);

        void forget() {
            Arrays.fill(results, UNKNOWN);
            kept.size = 0;
        }

        /** UNKNOWN, NO_MATCH or where the match ends. */
        int result(int rule, int place) {
            int slot = slotOf(rule, place);
            return slot == NONE ? NO_MATCH : results[slot];
        }

        void keepFailure(int rule, int place) {
            int slot = slotOf(rule, place);
            if (slot != NONE) {
                results[slot] = NO_MATCH;
            }
        }

        /** The captures of the match are those from the mark on. */
        void keepMatch(int rule, int place, int end, Captures captures, int mark) {
            int slot = slotOf(rule, place);
            if (slot != NONE) {
                results[slot] = end;
                keptFrom[slot] = kept.size;
                kept.addFrom(captures, mark, captures.size);
                keptTo[slot] = kept.size;
            }
        }

        void recallCaptures(int rule, int place, Captures captures) {
            int slot = slotOf(rule, place);
            if (slot != NONE) {
                captures.addFrom(kept, keptFrom[slot], keptTo[slot]);
            }
        }

        private static int slotOf(int rule, int place) {
            boolean known = rule >= 0 && rule < MOST_RULES && place >= 0 && place < PLACES;
            return known ? rule * PLACES + place : NONE;
        }
    }

    /**
     * Runs the instructions: as the machine, which looks and counts tries, or as the matcher with
     * the memory, which does not look, since it has to evaluate what a look would spare.
     * A stack of its own keeps the rules that are open from being calls of Java.
     */
    private static final class Runner {
        private final Row subject;
        final Captures captures = new Captures(MOST_CAPTURES);
        private final Memory memory = new Memory();
        private final int[] frameTargets = new int[MOST_FRAMES];
        private final int[] framePlaces = new int[MOST_FRAMES];
        private final int[] frameCaptures = new int[MOST_FRAMES];
        private final int[] frameRules = new int[MOST_FRAMES];
        private int frames = 0;
        private Tree tree;
        private Code code;
        private boolean looking = false;
        private int state = FAILED;
        private int at = 0;
        private int place = 0;
        int effort = 0;

        Runner(Row subject, Grammar grammar) {
            this.subject = subject;
            tree = grammar.tree;
            code = grammar.code;
        }

        /** How many characters were taken, -1 after a failure, -2 if it gave up. */
        int run(Grammar grammar, boolean machine) {
            begin(grammar, machine);
            for (int step = 0; step < MOST_STEPS && state == RUNNING; step++) {
                step();
            }
            if (state == MATCHED) {
                return place;
            }
            captures.size = 0;
            return state == FAILED ? -1 : -2;
        }

        private void begin(Grammar grammar, boolean machine) {
            tree = grammar.tree;
            code = grammar.code;
            looking = machine;
            captures.size = 0;
            memory.forget();
            frames = 0;
            state = RUNNING;
            at = 0;
            place = 0;
            effort = 0;
        }

        private void step() {
            switch (code.operation(at)) {
                case TAKE:
                    takeCharacter();
                    break;
                case LOOK:
                    look();
                    break;
                case TRY:
                    beginTry();
                    break;
                case ENTER:
                    push(NONE, NONE);
                    at++;
                    break;
                case JUMP:
                    at = code.target(at);
                    break;
                case COMMIT:
                    pop();
                    at = code.target(at);
                    break;
                case RETREAT:
                    pop();
                    restore();
                    at++;
                    break;
                case REFUSE:
                    pop();
                    fail();
                    break;
                case CALL:
                    callRule(code.operand(at));
                    break;
                case RETURN:
                    returnFromRule();
                    break;
                case OPEN:
                    captures.add(place, NONE);
                    at++;
                    break;
                case CLOSE:
                    captures.closeLatest(place);
                    at++;
                    break;
                default:
                    state = MATCHED;
                    break;
            }
        }

        private boolean nextIsIn(int node) {
            return tree.holds(node, subject.at(place));
        }

        private void takeCharacter() {
            if (nextIsIn(code.operand(at))) {
                place++;
                at++;
            } else {
                fail();
            }
        }

        private void look() {
            boolean hopeless = looking && !nextIsIn(code.operand(at));
            at = hopeless ? code.target(at) : at + 1;
        }

        private void beginTry() {
            if (looking && effort >= MOST_TRIES) {
                state = GAVE_UP;
                return;
            }
            if (looking) {
                effort++;
            }
            push(code.target(at), NONE);
            at++;
        }

        private void callRule(int rule) {
            int known = looking ? UNKNOWN : memory.result(rule, place);
            if (known == NO_MATCH) {
                fail();
            } else if (known == UNKNOWN) {
                if (!looking) {
                    effort++;
                }
                push(at + 1, rule);
                at = code.start(rule);
            } else {
                memory.recallCaptures(rule, place, captures);
                place = known;
                at++;
            }
        }

        private void returnFromRule() {
            pop();
            if (!looking) {
                memory.keepMatch(frameRules[frames], framePlaces[frames], place, captures, frameCaptures[frames]);
            }
            at = frameTargets[frames];
        }

        /** Goes on at the latest frame that has a way on; each rule that is open above it has failed. */
        private void fail() {
            for (int open = frames; open > 0; open--) {
                pop();
                if (frameRules[frames] != NONE) {
                    failRule();
                } else if (frameTargets[frames] != NONE) {
                    restore();
                    at = frameTargets[frames];
                    return;
                }
            }
            state = FAILED;
        }

        private void failRule() {
            if (!looking) {
                memory.keepFailure(frameRules[frames], framePlaces[frames]);
            }
        }

        private void push(int target, int rule) {
            if (frames >= MOST_FRAMES) {
                state = GAVE_UP;
                return;
            }
            frameTargets[frames] = target;
            framePlaces[frames] = place;
            frameCaptures[frames] = captures.size;
            frameRules[frames] = rule;
            frames++;
        }

        private void pop() {
            if (frames > 0) {
                frames--;
            }
        }

        /** Puts back what the frame that was popped just now had found. */
        private void restore() {
            place = framePlaces[frames];
            captures.cutTo(frameCaptures[frames]);
        }
    }
}
