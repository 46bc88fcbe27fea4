import java.util.ArrayList;
import java.util.HashMap;
import java.util.HashSet;
import java.util.List;
import java.util.Map;
import java.util.Random;
import java.util.Set;

/**
 * Runs of calls on GrammarMachine beside a model that is written in another way: the text is
 * judged by an automaton, and expressions are objects that match by calling one another.
 */
public final class ModelTest {
    private static final int RUNS = 30000;
    private static int wrong = 0;

    public static void main(String[] args) {
        Random random = new Random(args.length == 0 ? 20261115 : Long.parseLong(args[0]));
        int[] seen = new int[8];
        for (int run = 0; run < RUNS && wrong < 20; run++) {
            new Run(random, seen).go();
        }
        for (int kind = 0; kind < seen.length; kind++) {
            if (seen[kind] < 50) {
                wrong++;
                System.out.println("outcome " + kind + " was met only " + seen[kind] + " times");
            }
        }
        System.out.println(wrong == 0 ? "the machine does as the model" : wrong + " differences");
        if (wrong != 0) {
            System.exit(1);
        }
    }

    /** One run of calls on a new object and a new model. */
    private static final class Run {
        private final Random random;
        private final int[] seen;
        private final GrammarMachine machine = new GrammarMachine();
        private final Model model = new Model();
        private final StringBuilder told = new StringBuilder();

        Run(Random random, int[] seen) {
            this.random = random;
            this.seen = seen;
        }

        private interface Call {
            Object answer();
        }

        private static Object outcome(Call call) {
            try {
                return call.answer();
            } catch (RuntimeException e) {
                return e.getClass().getSimpleName();
            }
        }

        private Object same(String name, Call real, Call due) {
            Object got = outcome(real);
            Object want = outcome(due);
            told.append(name).append(" = ").append(got).append('\n');
            if (!got.equals(want)) {
                wrong++;
                System.out.println(told + "but due is " + want + "\n");
            }
            return want;
        }

        void go() {
            int texts = 1 + random.nextInt(3);
            for (int t = 0; t < texts; t++) {
                typeText(new Texts(random).text());
                note(same("compile", machine::compile, model::compile));
                same("fault", machine::fault, model::fault);
                askRules();
                for (int s = random.nextInt(4); s >= 0; s--) {
                    feedSubject();
                    matchBoth();
                }
            }
        }

        private void note(Object compiled) {
            if (compiled instanceof Integer) {
                seen[0]++;
            } else {
                seen[compiled.equals("IllegalArgumentException") ? 1 : compiled.equals("IllegalStateException") ? 2 : 3]++;
            }
        }

        private void typeText(String text) {
            if (random.nextInt(8) != 0) {
                machine.wipe();
                model.wipe();
            }
            told.append("text ").append(text).append('\n');
            for (char c : text.toCharArray()) {
                same("type " + c, () -> machine.type(c), () -> model.type(c));
            }
        }

        private void askRules() {
            for (char name = 'A'; name <= 'E'; name++) {
                char n = name;
                char c = (char) (random.nextInt(10) == 0 ? random.nextInt(140) : "abc-x "
                        .charAt(random.nextInt(6)));
                same("empty " + n, () -> machine.empty(n), () -> model.empty(n));
                same("head " + n + " " + c, () -> machine.head(n, c), () -> model.head(n, c));
            }
        }

        private void feedSubject() {
            if (random.nextInt(4) != 0) {
                machine.clear();
                model.clear();
                told.append("clear\n");
            }
            boolean alike = random.nextInt(3) == 0;
            for (int i = random.nextInt(12); i > 0; i--) {
                char c = alike ? 'a' : "aaabbc-x~ \u007f".charAt(random.nextInt(11));
                same("feed " + c, () -> machine.feed(c), () -> model.feed(c));
            }
            askMatch();
        }

        private void matchBoth() {
            for (int turn = 0; turn < 3; turn++) {
                boolean way = turn == 1 ^ random.nextInt(8) == 0;
                Object taken = same("match " + way, () -> machine.match(way), () -> model.match(way));
                if (taken instanceof Integer) {
                    int t = (Integer) taken;
                    seen[t == -2 ? 4 : t == -1 ? 5 : 6]++;
                }
                askMatch();
                if (random.nextInt(3) == 0) {
                    return;
                }
            }
        }

        private void askMatch() {
            same("work", machine::work, model::work);
            same("nodes", machine::nodes, model::nodes);
            for (int i = 0; i <= Math.max(0, model.nodes()); i++) {
                for (int what = 0; what < 4; what++) {
                    int n = i;
                    int w = what;
                    same("node " + n + " " + w, () -> machine.node(n, w), () -> model.node(n, w));
                }
            }
            if (model.nodes() > 4) {
                seen[7]++;
            }
        }
    }

    /** Makes texts: most of them grammars, some a little hurt. */
    private static final class Texts {
        private final Random random;
        private final int rules;

        Texts(Random random) {
            this.random = random;
            this.rules = 1 + random.nextInt(random.nextInt(6) == 0 ? 9 : 4);
        }

        String text() {
            if (random.nextInt(12) == 0) {
                return branching();
            }
            String text = grammar();
            for (int i = 0; i < 30 && text.length() > 50; i++) {
                text = grammar();
            }
            if (random.nextInt(5) == 0) {
                text = hurt(text);
            }
            return text;
        }

        /** The machine does these over and over again, so that it may give up. */
        private String branching() {
            String[] takes = {"'a'", "{'a'}", ".", "{.}", "B", "{B}"};
            String[] ends = {"'b'", "!.", "'c'?'b'", "{.}.", "C", ""};
            StringBuilder all = new StringBuilder("A=");
            for (int s = 2 + random.nextInt(2); s > 0; s--) {
                all.append(takes[random.nextInt(6)]).append('A').append(ends[random.nextInt(6)]).append('/');
            }
            all.append(takes[random.nextInt(6)]).append(";B=[ab];C=.B;");
            return all.toString();
        }

        private String grammar() {
            StringBuilder all = new StringBuilder();
            int size = 1 + random.nextInt(Math.max(1, 16 / rules));
            for (int r = 0; r < rules; r++) {
                all.append((char) ('A' + r)).append('=');
                all.append(expression(size, 0)).append(';');
            }
            return all.toString();
        }

        private String expression(int size, int depth) {
            StringBuilder all = new StringBuilder();
            int many = random.nextInt(3) == 0 ? 2 + random.nextInt(2) : 1;
            for (int s = 0; s < many; s++) {
                all.append(s == 0 ? "" : "/");
                for (int left = Math.max(1, size / many); left > 0 && random.nextInt(8) != 0; left -= 2) {
                    all.append(piece(left - 1, depth));
                }
            }
            return all.toString();
        }

        private String piece(int size, int depth) {
            String sign = random.nextInt(7) == 0 ? random.nextBoolean() ? "&" : "!" : "";
            String end = random.nextInt(3) == 0 ? "?*+".substring(random.nextInt(3)).substring(0, 1) : "";
            return sign + primary(size, depth) + end;
        }

        private String primary(int size, int depth) {
            int kind = random.nextInt(size > 2 && depth < 7 ? 16 : 9);
            if (kind < 3) {
                return "'" + "aaabc".charAt(random.nextInt(5)) + (random.nextInt(3) == 0 ? "b" : "") + "'";
            }
            if (kind == 3) {
                return "[" + items() + "]";
            }
            if (kind == 4) {
                return ".";
            }
            if (kind < 9) {
                return "" + (char) ('A' + random.nextInt(random.nextInt(20) == 0 ? rules + 1 : rules));
            }
            return kind < 12 ? "(" + expression(size - 2, depth + 1) + ")" : "{" + expression(size - 2, depth + 1) + "}";
        }

        private String items() {
            StringBuilder all = new StringBuilder();
            for (int i = 1 + random.nextInt(4); i > 0; i--) {
                all.append("abc---x~ [".charAt(random.nextInt(10)));
            }
            return all.toString();
        }

        private String hurt(String text) {
            int at = random.nextInt(text.length());
            char c = "A=;/&!?*+'[]-.(){}aB ".charAt(random.nextInt(21));
            switch (random.nextInt(4)) {
                case 0:
                    return text.substring(0, at);
                case 1:
                    return text.substring(0, at) + text.substring(at + 1);
                case 2:
                    return text.substring(0, at) + c + text.substring(at);
                default:
                    return text.substring(0, at) + c + text.substring(at + 1);
            }
        }
    }

    /** What the document says, in the plainest way. */
    private static final class Model {
        private String text = "";
        private String subject = "";
        private Map<Character, Expression> grammar = null;
        private char start = 0;
        private int fault = -1;
        private int work = -1;
        private List<int[]> nodes = null;

        private static boolean fits(char c) {
            return c >= 32 && c <= 126;
        }

        boolean type(char c) {
            if (!fits(c) || text.length() == 50) {
                return false;
            }
            text += c;
            return true;
        }

        void wipe() {
            text = "";
        }

        boolean feed(char c) {
            if (!fits(c) || subject.length() == 10) {
                return false;
            }
            subject += c;
            nodes = null;
            return true;
        }

        void clear() {
            subject = "";
            nodes = null;
        }

        int fault() {
            return fault;
        }

        int compile() {
            fault = new Automaton(text).fault();
            if (fault >= 0) {
                throw new IllegalArgumentException();
            }
            Parser parser = new Parser(text);
            Map<Character, Expression> rules = parser.rules();
            for (char name : parser.order) {
                if (!rules.keySet().containsAll(rules.get(name).names())) {
                    fault = name;
                    throw new IllegalStateException();
                }
            }
            for (char name : parser.order) {
                Set<Character> begun = new HashSet<>();
                rules.get(name).begin(rules, begun);
                if (begun.contains(name) || rules.get(name).endless(rules)) {
                    fault = name;
                    throw new UnsupportedOperationException();
                }
            }
            grammar = rules;
            start = parser.order.get(0);
            nodes = null;
            return rules.size();
        }

        private Expression rule(char name) {
            if (grammar == null) {
                throw new IllegalStateException();
            }
            if (!grammar.containsKey(name)) {
                throw new IndexOutOfBoundsException();
            }
            return grammar.get(name);
        }

        boolean empty(char name) {
            return rule(name).empty(grammar, new HashSet<>());
        }

        boolean head(char name, char c) {
            return rule(name).head(grammar, c);
        }

        int match(boolean machine) {
            if (grammar == null) {
                throw new IllegalStateException();
            }
            nodes = new ArrayList<>();
            Matching m = new Matching(grammar, subject, machine);
            try {
                Match found = m.rule(start, 0);
                work = machine ? m.tries : m.evaluations;
                if (found == null) {
                    return -1;
                }
                number(found.captures, -1);
                return found.end;
            } catch (ArithmeticException e) {
                work = m.tries;
                return -2;
            }
        }

        private void number(List<Captured> captures, int outer) {
            for (Captured c : captures) {
                nodes.add(new int[] {c.begin, c.end, outer});
                number(c.inner, nodes.size() - 1);
            }
        }

        int work() {
            return nodes == null ? -1 : work;
        }

        int nodes() {
            return nodes == null ? -1 : nodes.size();
        }

        int node(int i, int what) {
            if (nodes == null || i < 0 || i >= nodes.size()) {
                throw new IndexOutOfBoundsException();
            }
            if (what < 0 || what > 2) {
                throw new IllegalArgumentException();
            }
            return nodes.get(i)[what];
        }
    }

    /** Goes over the text character by character with a stack of open brackets. */
    private static final class Automaton {
        private final String text;
        private String names = "";
        private String open = "";
        private String state = "rule";

        Automaton(String text) {
            this.text = text;
        }

        int fault() {
            for (int i = 0; i < text.length(); i++) {
                state = next(text.charAt(i));
                if (state == null) {
                    return i;
                }
            }
            return state.equals("rule") && !names.isEmpty() ? -1 : text.length();
        }

        private String next(char c) {
            switch (state) {
                case "rule":
                    if (c < 'A' || c > 'Z' || names.indexOf(c) >= 0 || names.length() == 8) {
                        return null;
                    }
                    names += c;
                    return "named";
                case "named":
                    return c == '=' ? "piece" : null;
                case "row-":
                    return c == '\'' ? null : "row";
                case "row":
                    return c == '\'' ? "primary" : "row";
                case "class-":
                    return c == ']' ? null : "class";
                case "class":
                    return c == ']' ? "primary" : "class";
                case "signed":
                    return primary(c);
                case "primary":
                    return "?*+".indexOf(c) >= 0 ? "piece" : piece(c);
                default:
                    return piece(c);
            }
        }

        private String piece(char c) {
            if (c == '&' || c == '!') {
                return "signed";
            }
            if (c == '/') {
                return "piece";
            }
            if (c == ';') {
                return open.isEmpty() ? "rule" : null;
            }
            if (c == ')' || c == '}') {
                if (!open.endsWith(c == ')' ? "(" : "{")) {
                    return null;
                }
                open = open.substring(0, open.length() - 1);
                return "primary";
            }
            return primary(c);
        }

        private String primary(char c) {
            if (c == '(' || c == '{') {
                open += c;
                return open.length() > 6 ? null : "piece";
            }
            if (c == '\'') {
                return "row-";
            }
            if (c == '[') {
                return "class-";
            }
            return c == '.' || c >= 'A' && c <= 'Z' ? "primary" : null;
        }
    }

    private static final class Captured {
        final int begin;
        final int end;
        final List<Captured> inner;

        Captured(int begin, int end, List<Captured> inner) {
            this.begin = begin;
            this.end = end;
            this.inner = inner;
        }
    }

    private static final class Match {
        final int end;
        final List<Captured> captures;

        Match(int end, List<Captured> captures) {
            this.end = end;
            this.captures = captures;
        }

        static Match nothing(int place) {
            return new Match(place, List.of());
        }

        Match then(Match next) {
            List<Captured> all = new ArrayList<>(captures);
            all.addAll(next.captures);
            return new Match(next.end, all);
        }
    }

    private static final class Matching {
        final Map<Character, Expression> grammar;
        final String subject;
        final boolean machine;
        final Map<String, Match> memory = new HashMap<>();
        int tries = 0;
        int evaluations = 0;

        Matching(Map<Character, Expression> grammar, String subject, boolean machine) {
            this.grammar = grammar;
            this.subject = subject;
            this.machine = machine;
        }

        Match rule(char name, int place) {
            if (machine) {
                return grammar.get(name).match(this, place);
            }
            String key = name + " " + place;
            if (!memory.containsKey(key)) {
                evaluations++;
                memory.put(key, grammar.get(name).match(this, place));
            }
            return memory.get(key);
        }

        void countTry() {
            if (machine && tries == 1000) {
                throw new ArithmeticException();
            }
            tries++;
        }

        /** e of / ? * +. */
        Match attempt(Expression e, int place) {
            if (machine && !e.empty(grammar, new HashSet<>())
                    && (place == subject.length() || !e.head(grammar, subject.charAt(place)))) {
                return null;
            }
            countTry();
            return e.match(this, place);
        }
    }

    private abstract static class Expression {
        abstract Match match(Matching m, int place);

        /** A name that is being asked for already does not help itself. */
        abstract boolean empty(Map<Character, Expression> rules, Set<Character> asked);

        abstract void begin(Map<Character, Expression> rules, Set<Character> begun);

        abstract boolean endless(Map<Character, Expression> rules);

        abstract boolean head(Map<Character, Expression> rules, char c);

        abstract Set<Character> names();

        boolean empty(Map<Character, Expression> rules) {
            return empty(rules, new HashSet<>());
        }
    }

    private static final class Chars extends Expression {
        final Set<Character> fit;

        Chars(Set<Character> fit) {
            this.fit = fit;
        }

        Match match(Matching m, int place) {
            boolean there = place < m.subject.length() && fit.contains(m.subject.charAt(place));
            return there ? Match.nothing(place + 1) : null;
        }

        boolean empty(Map<Character, Expression> rules, Set<Character> asked) {
            return false;
        }

        void begin(Map<Character, Expression> rules, Set<Character> begun) {
        }

        boolean endless(Map<Character, Expression> rules) {
            return false;
        }

        boolean head(Map<Character, Expression> rules, char c) {
            return fit.contains(c);
        }

        Set<Character> names() {
            return Set.of();
        }
    }

    private static final class Name extends Expression {
        final char name;

        Name(char name) {
            this.name = name;
        }

        Match match(Matching m, int place) {
            return m.rule(name, place);
        }

        boolean empty(Map<Character, Expression> rules, Set<Character> asked) {
            if (asked.contains(name)) {
                return false;
            }
            Set<Character> more = new HashSet<>(asked);
            more.add(name);
            return rules.get(name).empty(rules, more);
        }

        void begin(Map<Character, Expression> rules, Set<Character> begun) {
            if (begun.add(name)) {
                rules.get(name).begin(rules, begun);
            }
        }

        boolean endless(Map<Character, Expression> rules) {
            return false;
        }

        boolean head(Map<Character, Expression> rules, char c) {
            return rules.get(name).head(rules, c);
        }

        Set<Character> names() {
            return Set.of(name);
        }
    }

    /** Two parts, one behind the other (also with nothing behind the last). */
    private static final class Both extends Expression {
        final Expression first;
        final Expression rest;

        Both(Expression first, Expression rest) {
            this.first = first;
            this.rest = rest;
        }

        Match match(Matching m, int place) {
            Match one = first.match(m, place);
            Match two = one == null ? null : rest.match(m, one.end);
            return two == null ? null : one.then(two);
        }

        boolean empty(Map<Character, Expression> rules, Set<Character> asked) {
            return first.empty(rules, asked) && rest.empty(rules, asked);
        }

        void begin(Map<Character, Expression> rules, Set<Character> begun) {
            first.begin(rules, begun);
            if (first.empty(rules)) {
                rest.begin(rules, begun);
            }
        }

        boolean endless(Map<Character, Expression> rules) {
            return first.endless(rules) || rest.endless(rules);
        }

        boolean head(Map<Character, Expression> rules, char c) {
            return first.head(rules, c) || first.empty(rules) && rest.head(rules, c);
        }

        Set<Character> names() {
            Set<Character> all = new HashSet<>(first.names());
            all.addAll(rest.names());
            return all;
        }
    }

    private static final class Nothing extends Expression {
        Match match(Matching m, int place) {
            return Match.nothing(place);
        }

        boolean empty(Map<Character, Expression> rules, Set<Character> asked) {
            return true;
        }

        void begin(Map<Character, Expression> rules, Set<Character> begun) {
        }

        boolean endless(Map<Character, Expression> rules) {
            return false;
        }

        boolean head(Map<Character, Expression> rules, char c) {
            return false;
        }

        Set<Character> names() {
            return Set.of();
        }
    }

    private static final class Either extends Expression {
        final Expression one;
        final Expression other;

        Either(Expression one, Expression other) {
            this.one = one;
            this.other = other;
        }

        Match match(Matching m, int place) {
            Match found = m.attempt(one, place);
            return found != null ? found : other.match(m, place);
        }

        boolean empty(Map<Character, Expression> rules, Set<Character> asked) {
            return one.empty(rules, asked) || other.empty(rules, asked);
        }

        void begin(Map<Character, Expression> rules, Set<Character> begun) {
            one.begin(rules, begun);
            other.begin(rules, begun);
        }

        boolean endless(Map<Character, Expression> rules) {
            return one.endless(rules) || other.endless(rules);
        }

        boolean head(Map<Character, Expression> rules, char c) {
            return one.head(rules, c) || other.head(rules, c);
        }

        Set<Character> names() {
            Set<Character> all = new HashSet<>(one.names());
            all.addAll(other.names());
            return all;
        }
    }

    /** What has one part: its sign is one of ? * + & ! and {. */
    private static final class Around extends Expression {
        final char sign;
        final Expression e;

        Around(char sign, Expression e) {
            this.sign = sign;
            this.e = e;
        }

        Match match(Matching m, int place) {
            switch (sign) {
                case '?':
                    Match once = m.attempt(e, place);
                    return once == null ? Match.nothing(place) : once;
                case '*':
                    return more(m, Match.nothing(place));
                case '+':
                    Match first = e.match(m, place);
                    return first == null ? null : more(m, first);
                case '{':
                    Match inner = e.match(m, place);
                    return inner == null ? null
                            : new Match(inner.end, List.of(new Captured(place, inner.end, inner.captures)));
                default:
                    m.countTry();
                    return e.match(m, place) != null == (sign == '&') ? Match.nothing(place) : null;
            }
        }

        private Match more(Matching m, Match soFar) {
            Match next = m.attempt(e, soFar.end);
            return next == null ? soFar : more(m, soFar.then(next));
        }

        boolean empty(Map<Character, Expression> rules, Set<Character> asked) {
            return "?*&!".indexOf(sign) >= 0 || e.empty(rules, asked);
        }

        void begin(Map<Character, Expression> rules, Set<Character> begun) {
            e.begin(rules, begun);
        }

        boolean endless(Map<Character, Expression> rules) {
            return "*+{".indexOf(sign) >= 0 && e.empty(rules) || e.endless(rules);
        }

        boolean head(Map<Character, Expression> rules, char c) {
            return sign != '&' && sign != '!' && e.head(rules, c);
        }

        Set<Character> names() {
            return e.names();
        }
    }

    /** Reads a text that the automaton has found to be a grammar. */
    private static final class Parser {
        final List<Character> order = new ArrayList<>();
        private final String text;
        private int at = 0;

        Parser(String text) {
            this.text = text;
        }

        Map<Character, Expression> rules() {
            Map<Character, Expression> all = new HashMap<>();
            while (at < text.length()) {
                char name = text.charAt(at);
                at += 2;
                order.add(name);
                all.put(name, expression());
                at++;
            }
            return all;
        }

        private Expression expression() {
            Expression first = sequence();
            if (text.charAt(at) != '/') {
                return first;
            }
            at++;
            return new Either(first, expression());
        }

        private Expression sequence() {
            if ("/);}".indexOf(text.charAt(at)) >= 0) {
                return new Nothing();
            }
            Expression first = piece();
            return new Both(first, sequence());
        }

        private Expression piece() {
            char sign = text.charAt(at);
            if (sign == '&' || sign == '!') {
                at++;
                return new Around(sign, repeated());
            }
            return repeated();
        }

        private Expression repeated() {
            Expression e = primary();
            char sign = text.charAt(at);
            if (sign == '?' || sign == '*' || sign == '+') {
                at++;
                return new Around(sign, e);
            }
            return e;
        }

        private Expression primary() {
            char c = text.charAt(at++);
            switch (c) {
                case '\'':
                    Expression row = row(text.substring(at, text.indexOf('\'', at)));
                    at = text.indexOf('\'', at) + 1;
                    return row;
                case '[':
                    int end = text.indexOf(']', at);
                    Expression fit = new Chars(items(text.substring(at, end)));
                    at = end + 1;
                    return fit;
                case '.':
                    return new Chars(from(' ', '~'));
                case '(':
                case '{':
                    Expression inner = expression();
                    at++;
                    return c == '(' ? inner : new Around('{', inner);
                default:
                    return new Name(c);
            }
        }

        private static Expression row(String row) {
            if (row.isEmpty()) {
                return new Nothing();
            }
            return new Both(new Chars(Set.of(row.charAt(0))), row(row.substring(1)));
        }

        private static Set<Character> items(String items) {
            if (items.isEmpty()) {
                return Set.of();
            }
            boolean range = items.length() > 2 && items.charAt(1) == '-' && items.charAt(0) <= items.charAt(2);
            Set<Character> all = new HashSet<>(items(items.substring(range ? 3 : 1)));
            all.addAll(from(items.charAt(0), items.charAt(range ? 2 : 0)));
            return all;
        }

        private static Set<Character> from(char least, char greatest) {
            Set<Character> all = new HashSet<>();
            for (char c = least; c <= greatest; c++) {
                all.add(c);
            }
            return all;
        }
    }
}
