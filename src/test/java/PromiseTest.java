import java.lang.reflect.Constructor;
import java.lang.reflect.Method;
import java.lang.reflect.Modifier;
import java.util.Arrays;
import java.util.TreeSet;

/** Each promise of the document by hand: ordinary inputs, the edges that it names, wrong inputs. */
public final class PromiseTest {
    private static int wrong = 0;

    private static void due(String what, Object got, Object want) {
        if (!got.equals(want)) {
            wrong++;
            System.out.println(what + " answered " + got + ", due is " + want);
        }
    }

    private interface Call {
        Object answer();
    }

    /** The answer, or the simple name of what was thrown. */
    private static Object outcome(Call call) {
        try {
            return call.answer();
        } catch (RuntimeException e) {
            return e.getClass().getSimpleName();
        }
    }

    private static final String ARGUMENT = "IllegalArgumentException";
    private static final String STATE = "IllegalStateException";
    private static final String UNSUPPORTED = "UnsupportedOperationException";
    private static final String INDEX = "IndexOutOfBoundsException";

    private static void typeAll(GrammarMachine x, String text) {
        for (char c : text.toCharArray()) {
            due("type " + c + " of " + text, x.type(c), true);
        }
    }

    private static void feedAll(GrammarMachine x, String subject) {
        x.clear();
        for (char c : subject.toCharArray()) {
            due("feed " + c + " of " + subject, x.feed(c), true);
        }
    }

    private static GrammarMachine typed(String text) {
        GrammarMachine x = new GrammarMachine();
        typeAll(x, text);
        return x;
    }

    private static GrammarMachine compiled(String text) {
        GrammarMachine x = typed(text);
        due("compile of " + text + " is a number", outcome(x::compile) instanceof Integer, true);
        return x;
    }

    private static void compileDue(String text, Object answer, int fault) {
        GrammarMachine x = typed(text);
        due("compile of " + text, outcome(x::compile), answer);
        due("fault of " + text, x.fault(), fault);
    }

    private static String tree(GrammarMachine x) {
        StringBuilder all = new StringBuilder();
        for (int i = 0; i < x.nodes(); i++) {
            all.append(x.node(i, 0)).append('-').append(x.node(i, 1)).append('<').append(x.node(i, 2)).append(' ');
        }
        return all.toString().trim();
    }

    private static void matchDue(String text, String subject, int taken, int tries, int evaluations, String tree) {
        GrammarMachine x = compiled(text);
        feedAll(x, subject);
        String of = text + " with \"" + subject + "\"";
        due("machine of " + of, x.match(true), tries > 1000 ? -2 : taken);
        due("tries of " + of, x.work(), Math.min(tries, 1000));
        due("tree of the machine of " + of, tree(x), tries > 1000 ? "" : tree);
        due("memory of " + of, x.match(false), taken);
        due("evaluations of " + of, x.work(), evaluations);
        due("tree of the memory of " + of, tree(x), tree);
    }

    public static void main(String[] args) {
        face();
        newObject();
        type();
        wipe();
        compile();
        faultPlaces();
        classes();
        undefined();
        leftRecursive();
        endless();
        refusalLeavesAll();
        empty();
        head();
        feed();
        clear();
        match();
        tries();
        giveUp();
        evaluations();
        nodes();
        nodeErrors();
        deepRuns();
        System.out.println(wrong == 0 ? "all promises hold" : wrong + " answers are not as due");
        if (wrong != 0) {
            System.exit(1);
        }
    }

    private static void face() {
        TreeSet<String> found = new TreeSet<>();
        for (Method m : GrammarMachine.class.getDeclaredMethods()) {
            if (!Modifier.isPrivate(m.getModifiers()) && !m.isSynthetic()) {
                found.add(Modifier.toString(m.getModifiers()) + " " + m.getReturnType() + " " + m.getName()
                        + Arrays.toString(m.getParameterTypes()));
            }
        }
        TreeSet<String> want = new TreeSet<>(Arrays.asList(
                "public boolean type[char]", "public void wipe[]", "public int compile[]", "public int fault[]",
                "public boolean empty[char]", "public boolean head[char, char]", "public boolean feed[char]",
                "public void clear[]", "public int match[boolean]", "public int work[]", "public int nodes[]",
                "public int node[int, int]"));
        due("the face", found, want);
        Constructor<?>[] constructors = GrammarMachine.class.getConstructors();
        due("constructors", constructors.length, 1);
        due("constructor's parameters", constructors[0].getParameterCount(), 0);
        due("fields to be seen", GrammarMachine.class.getFields().length, 0);
        due("final", Modifier.isFinal(GrammarMachine.class.getModifiers()), true);
    }

    // Promise 1.
    private static void newObject() {
        GrammarMachine x = new GrammarMachine();
        due("new: fault", x.fault(), -1);
        due("new: work", x.work(), -1);
        due("new: nodes", x.nodes(), -1);
        due("new: match", outcome(() -> x.match(true)), STATE);
        due("new: match of the other", outcome(() -> x.match(false)), STATE);
        due("new: empty", outcome(() -> x.empty('A')), STATE);
        due("new: head", outcome(() -> x.head('A', 'a')), STATE);
        due("new: node", outcome(() -> x.node(0, 0)), INDEX);
        due("new: node and what", outcome(() -> x.node(0, 9)), INDEX);
        due("new: compile", outcome(x::compile), ARGUMENT);
        due("new: fault of the empty text", x.fault(), 0);
        matchDue("A=.;", "", -1, 0, 1, "");
    }

    // Promise 2.
    private static void type() {
        GrammarMachine x = new GrammarMachine();
        due("type 31", x.type((char) 31), false);
        due("type 127", x.type((char) 127), false);
        due("type 0", x.type((char) 0), false);
        due("type 200", x.type((char) 200), false);
        due("type 65535", x.type((char) 65535), false);
        due("what was refused is not there", outcome(x::compile), ARGUMENT);
        due("its fault", x.fault(), 0);
        typeAll(x, "A=' ~'/'01234567890123456789012345678901234567'/;");
        due("49 are there", outcome(x::compile), 1);
        typeAll(x, "B");
        due("the 51st", x.type('='), false);
        due("50 are there", outcome(x::compile), ARGUMENT);
        due("fault at the end of 50", x.fault(), 50);
        due("a character that is none, when it is full", x.type((char) 7), false);
    }

    // Promise 3.
    private static void wipe() {
        GrammarMachine x = compiled("A='a';");
        feedAll(x, "a");
        x.match(true);
        x.wipe();
        due("wipe leaves the match", x.work(), 0);
        due("wipe leaves the grammar", x.match(true), 1);
        due("wipe leaves the fault", x.fault(), -1);
        due("wiped: compile", outcome(x::compile), ARGUMENT);
        due("wiped: fault", x.fault(), 0);
        typeAll(x, "B='a'.;C=;");
        due("typed after wipe", outcome(x::compile), 2);
        x.wipe();
        x.wipe();
        typeAll(x, "12345678901234567890123456789012345678901234567890");
        due("50 after wipe", x.type('1'), false);
    }

    // Promise 4.
    private static void compile() {
        compileDue("A=;", 1, -1);
        compileDue("A=;B=;C=;D=;E=;F=;G=;H=;", 8, -1);
        compileDue("Z='a'*/&.?!Y+;Y=({[ -~]});", 2, -1);
        compileDue("A=//;", 1, -1);
        compileDue("A=(((((({.}))))));", ARGUMENT, 8);
        compileDue("A=({({(('a'))})});", 1, -1);
        GrammarMachine x = typed("A=.;");
        due("compile", x.compile(), 1);
        due("the text stays", x.compile(), 1);
        feedAll(x, "a");
        due("match", x.match(true), 1);
        due("compile again", x.compile(), 1);
        due("there is no match then", x.work(), -1);
        due("nor nodes", x.nodes(), -1);
        typeAll(x, "B=A;");
        due("the text goes on", x.compile(), 2);
    }

    // Promise 5.
    private static void faultPlaces() {
        compileDue("a", ARGUMENT, 0);
        compileDue("A", ARGUMENT, 1);
        compileDue("A;", ARGUMENT, 1);
        compileDue("A=", ARGUMENT, 2);
        compileDue("A= ;", ARGUMENT, 2);
        compileDue("A=a;", ARGUMENT, 2);
        compileDue("A=.;;", ARGUMENT, 4);
        compileDue("A=.;B", ARGUMENT, 5);
        compileDue("A=.;A=.;", ARGUMENT, 4);
        compileDue("A=;B=;C=;D=;E=;F=;G=;H=;I=;", ARGUMENT, 24);
        compileDue("A=;B=;C=;D=;E=;F=;G=;H=;;", ARGUMENT, 24);
        compileDue("A='", ARGUMENT, 3);
        compileDue("A='';", ARGUMENT, 3);
        compileDue("A='a", ARGUMENT, 4);
        compileDue("A='a;", ARGUMENT, 5);
        compileDue("A=[];", ARGUMENT, 3);
        compileDue("A=[", ARGUMENT, 3);
        compileDue("A=[a-];", 1, -1);
        compileDue("A=[a-", ARGUMENT, 5);
        compileDue("A=[a]];", ARGUMENT, 5);
        compileDue("A=&;", ARGUMENT, 3);
        compileDue("A=&!.;", ARGUMENT, 3);
        compileDue("A=!", ARGUMENT, 3);
        compileDue("A=!/.;", ARGUMENT, 3);
        compileDue("A=?;", ARGUMENT, 2);
        compileDue("A=.*+;", ARGUMENT, 4);
        compileDue("A=.??;", ARGUMENT, 4);
        compileDue("A=(.;", ARGUMENT, 4);
        compileDue("A=(.};", ARGUMENT, 4);
        compileDue("A={.);", ARGUMENT, 4);
        compileDue("A=.);", ARGUMENT, 3);
        compileDue("A=.};", ARGUMENT, 3);
        compileDue("A=((((((.))))));", 1, -1);
        compileDue("A=(((((((.)))))));", ARGUMENT, 8);
        compileDue("A={{{{{{{.}}}}}}};", ARGUMENT, 8);
        compileDue("A=((((((.))))))((((((.))))));", 1, -1);
        compileDue("A=(=);", ARGUMENT, 3);
        compileDue("A=B=;", ARGUMENT, 3);
        compileDue("A=~;", ARGUMENT, 2);
    }

    private static void setDue(String items, String in) {
        GrammarMachine x = compiled("A=[" + items + "];");
        for (char c = 32; c < 127; c++) {
            boolean want = in.indexOf(c) >= 0;
            due("[" + items + "] has " + c + " in its head", x.head('A', c), want);
            x.clear();
            x.feed(c);
            due("[" + items + "] takes " + c, x.match(true), want ? 1 : -1);
        }
    }

    private static void classes() {
        setDue("a", "a");
        setDue("z-a", "z-a");
        setDue("a-b-a", "ab-a");
        setDue("a-b-d", "ab-d");
        setDue("a--", "a-");
        setDue("--/", "-./");
        setDue("---", "-");
        setDue("+--", "+,-");
        setDue("--", "-");
        setDue("-", "-");
        setDue("-a", "-a");
        setDue("a-", "a-");
        setDue("z--/", "z-./");
        setDue("z-a-c", "z-abc");
        setDue("a-a", "a");
        setDue("'", "'");
        setDue("[;({", "[;({");
        setDue(" -$", " !\"#$");
        setDue("^-a", "^_`a");
        setDue("|-~ ", "|}~ ");
        setDue("Z-\\-^", "Z[\\-^");
    }

    // Promises 4 and 5.
    private static void undefined() {
        compileDue("A=B;", STATE, 'A');
        compileDue("A=.;B=C;", STATE, 'B');
        compileDue("A=B;B='x'/!(.{D}?);C=E;", STATE, 'B');
        compileDue("A=A;B=C;", STATE, 'B');
        compileDue("A={};Z=Y;", STATE, 'Z');
        compileDue("A=B;B=.;", 2, -1);
    }

    private static void leftRecursive() {
        compileDue("A=A;", UNSUPPORTED, 'A');
        compileDue("A=.A/;", 1, -1);
        compileDue("A=.?A;", UNSUPPORTED, 'A');
        compileDue("A=.*A;", UNSUPPORTED, 'A');
        compileDue("A=.+A/;", 1, -1);
        compileDue("A=./A.;", UNSUPPORTED, 'A');
        compileDue("A=&A.;", UNSUPPORTED, 'A');
        compileDue("A=!A.;", UNSUPPORTED, 'A');
        compileDue("A=&.!.A;", UNSUPPORTED, 'A');
        compileDue("A=(.&A)/.;", 1, -1);
        compileDue("A={(A)}+;", UNSUPPORTED, 'A');
        compileDue("A=B;B=B;", UNSUPPORTED, 'B');
        compileDue("A=B;B=C;C=A;", UNSUPPORTED, 'A');
        compileDue("A=.;B=C;C=D;D=E;E=F;F=G;G=H;H=DB;", UNSUPPORTED, 'D');
        compileDue("A=.;B=C;C=D;D=E;E=F;F=G;G=H;H=!DB;", UNSUPPORTED, 'B');
        compileDue("A=BA/.;B=;", UNSUPPORTED, 'A');
        compileDue("A=BA/.;B=C;C='x'/D;D='y'?;", UNSUPPORTED, 'A');
        compileDue("A=BA/.;B=C;C='x'/D;D='y'+;", 4, -1);
        compileDue("A=(/.)A;", UNSUPPORTED, 'A');
    }

    private static void endless() {
        compileDue("A={};", UNSUPPORTED, 'A');
        compileDue("A=()*;", UNSUPPORTED, 'A');
        compileDue("A=()+;", UNSUPPORTED, 'A');
        compileDue("A=()?;", 1, -1);
        compileDue("A=&()!();", 1, -1);
        compileDue("A=(.?)*;", UNSUPPORTED, 'A');
        compileDue("A=(.+)+;", 1, -1);
        compileDue("A=(.+)*;", 1, -1);
        compileDue("A=(&.)*;", UNSUPPORTED, 'A');
        compileDue("A={!.};", UNSUPPORTED, 'A');
        compileDue("A={./};", UNSUPPORTED, 'A');
        compileDue("A=.B*;B='x'/C;C=.?;", UNSUPPORTED, 'A');
        compileDue("A=.;B={C};C=.*;", UNSUPPORTED, 'B');
        compileDue("A=.;C=.*;B=(CC)+;", UNSUPPORTED, 'B');
        compileDue("A=.;B=.(.(.{.?}));C=C;", UNSUPPORTED, 'B');
        compileDue("A=.;B=B;C={};", UNSUPPORTED, 'B');
        compileDue("A={C};C=C;", UNSUPPORTED, 'C');
        compileDue("A={B};B=A/;", UNSUPPORTED, 'A');
        compileDue("A=" + "{}".repeat(23) + ";", UNSUPPORTED, 'A');
    }

    private static void refusalDue(GrammarMachine x, String text, String thrown, int fault) {
        x.wipe();
        typeAll(x, text);
        due("compile of " + text, outcome(x::compile), thrown);
        due("fault of " + text, x.fault(), fault);
        due("the match stays after " + text, x.work(), 2);
        due("its tree stays after " + text, tree(x), "0-1<-1 1-2<-1");
        due("the grammar stays after " + text, x.empty('Q'), true);
        due("its head stays after " + text, x.head('Q', 'a'), true);
        due("its names stay after " + text, outcome(() -> x.empty('A')), INDEX);
    }

    private static void refusalLeavesAll() {
        GrammarMachine x = compiled("Q={'a'}*;");
        feedAll(x, "aa");
        x.match(true);
        refusalDue(x, "A='b'", ARGUMENT, 5);
        refusalDue(x, "A='b'B;", STATE, 'A');
        refusalDue(x, "A='b';B=B;", UNSUPPORTED, 'B');
        due("it matches as before", x.match(false), 2);
        due("fault until the next compile", x.fault(), (int) 'B');
        x.wipe();
        typeAll(x, "A='b';");
        due("then another grammar", x.compile(), 1);
        due("fault is gone", x.fault(), -1);
        due("the match is gone", x.nodes(), -1);
        due("the old name is gone", outcome(() -> x.empty('Q')), INDEX);
        due("the new one matches", x.match(true), -1);
    }

    // Promise 6.
    private static void emptyDue(String text, char name, boolean want) {
        due(name + " is empty in " + text, compiled(text).empty(name), want);
    }

    private static void empty() {
        emptyDue("A=;", 'A', true);
        emptyDue("A='a';", 'A', false);
        emptyDue("A=[a];", 'A', false);
        emptyDue("A=.;", 'A', false);
        emptyDue("A=.?;", 'A', true);
        emptyDue("A=.*;", 'A', true);
        emptyDue("A=.+;", 'A', false);
        emptyDue("A=&.;", 'A', true);
        emptyDue("A=!.;", 'A', true);
        emptyDue("A={.};", 'A', false);
        emptyDue("A=.?.*;", 'A', true);
        emptyDue("A=.?.;", 'A', false);
        emptyDue("A=./;", 'A', true);
        emptyDue("A=./.;", 'A', false);
        emptyDue("A=(.?);", 'A', true);
        emptyDue("A=B;B=C;C=D;D=E;E=F;F=G;G=H;H=;", 'A', true);
        emptyDue("A=B;B=C;C=D;D=E;E=F;F=G;G=H;H=.;", 'A', false);
        emptyDue("A=.;B=.?;", 'B', true);
        GrammarMachine x = compiled("A=;C=;");
        due("no such name", outcome(() -> x.empty('B')), INDEX);
        due("no name at all", outcome(() -> x.empty('a')), INDEX);
        due("name 0", outcome(() -> x.empty((char) 0)), INDEX);
        due("name 65535", outcome(() -> x.empty((char) 65535)), INDEX);
    }

    // Promise 7.
    private static void headDue(String text, String in) {
        GrammarMachine x = compiled(text);
        for (int c = 0; c < 300; c++) {
            due((char) c + " in the head of " + text, x.head('A', (char) c), c >= 32 && in.indexOf(c) >= 0);
        }
        due("65535 in the head of " + text, x.head('A', (char) 65535), false);
    }

    private static void head() {
        StringBuilder all = new StringBuilder();
        for (char c = 32; c < 127; c++) {
            all.append(c);
        }
        headDue("A=.;", all.toString());
        headDue("A=!'a'.;", all.toString());
        headDue("A=;", "");
        headDue("A='xyz';", "x");
        headDue("A=[a-c]'d';", "abc");
        headDue("A=[ ~]?'d'*'e'+'f'*;", " ~de");
        headDue("A='a'/'b'/;", "ab");
        headDue("A=&'a'!'b''c'?'d';", "cd");
        headDue("A={'a'/'b'?'c'};", "abc");
        headDue("A=B'x';B='b'*C?;C='c'B;", "bcx");
        headDue("A=B;B=C;C=D;D=E;E=F;F=G;G=H;H='h';", "h");
        headDue("A='a'?();", "a");
        GrammarMachine x = compiled("A='a';B='b';");
        due("head of another rule", x.head('B', 'b'), true);
        due("not of the first one", x.head('A', 'b'), false);
        due("no such rule", outcome(() -> x.head('C', 'b')), INDEX);
        due("no such rule, no character", outcome(() -> x.head((char) 1, (char) 2)), INDEX);
    }

    // Promise 8.
    private static void feed() {
        GrammarMachine x = compiled("A=.*;");
        due("match", x.match(true), 0);
        due("feed 31", x.feed((char) 31), false);
        due("feed 127", x.feed((char) 127), false);
        due("feed 65535", x.feed((char) 65535), false);
        due("a refused one leaves the match", x.work(), 0);
        due("feed 32", x.feed(' '), true);
        due("there is no match then", x.work(), -1);
        due("feed 126", x.feed('~'), true);
        due("match", x.match(false), 2);
        for (int i = 2; i < 10; i++) {
            due("feed the " + i, x.feed('x'), true);
        }
        due("match 10", x.match(true), 10);
        due("the 11th", x.feed('x'), false);
        due("it leaves the match", x.work(), 10);
        due("still 10", x.match(false), 10);
    }

    // Promise 9.
    private static void clear() {
        GrammarMachine x = compiled("A=.*;");
        feedAll(x, "0123456789");
        x.match(true);
        x.clear();
        due("cleared: work", x.work(), -1);
        due("cleared: nodes", x.nodes(), -1);
        due("cleared: node", outcome(() -> x.node(0, 0)), INDEX);
        due("cleared: match", x.match(true), 0);
        x.clear();
        due("cleared when empty: work", x.work(), -1);
        due("feed after clear", x.feed('a'), true);
        due("match after clear", x.match(true), 1);
    }

    // Promise 10.
    private static void match() {
        matchDue("A=;", "abc", 0, 0, 1, "");
        matchDue("A='abc';", "abcd", 3, 0, 1, "");
        matchDue("A='abc';", "abd", -1, 0, 1, "");
        matchDue("A='abc';", "ab", -1, 0, 1, "");
        matchDue("A=[a-c].;", "bz", 2, 0, 1, "");
        matchDue("A='a'/'ab';", "ab", 1, 1, 1, "");
        matchDue("A=('a'/'ab')'c';", "abc", -1, 1, 1, "");
        matchDue("A='ab'/'a';", "ac", 1, 1, 1, "");
        matchDue("A='a'*'a';", "aaa", -1, 3, 1, "");
        matchDue("A=&'a'.;", "ab", 1, 1, 1, "");
        matchDue("A=&'a'.;", "b", -1, 1, 1, "");
        matchDue("A=!'a'.;", "b", 1, 1, 1, "");
        matchDue("A=!'a'.;", "a", -1, 1, 1, "");
        matchDue("A=&'a'*'b';", "aab", -1, 3, 1, "");
        matchDue("A=.B;B=.;", "ab", 2, 0, 2, "");
        matchDue("A='('A')'/'x';", "((x))", 5, 2, 3, "");
        matchDue("A='('A')'/'x';", "((x)", -1, 2, 3, "");
        matchDue("A=&(B!'b')'a'*C;B='a'B?'b';C='b'C?'c';", "aabbcc", 6, 6, 7, "");
        matchDue("B=A;A='a';", "a", 1, 0, 2, "");
    }

    // Promise 11: THE MACHINE.
    private static void tries() {
        matchDue("A='a'?;", "a", 1, 1, 1, "");
        matchDue("A='a'?;", "b", 0, 0, 1, "");
        matchDue("A='a'?;", "", 0, 0, 1, "");
        matchDue("A='ab'?;", "ac", 0, 1, 1, "");
        matchDue("A=('a'?)?;", "b", 0, 1, 1, "");
        matchDue("A='a'*;", "aab", 2, 2, 1, "");
        matchDue("A='ab'*;", "abac", 2, 2, 1, "");
        matchDue("A='a'+;", "aab", 2, 1, 1, "");
        matchDue("A='a'+;", "b", -1, 0, 1, "");
        matchDue("A='a'+;", "a", 1, 0, 1, "");
        matchDue("A='a'+;", "aaa", 3, 2, 1, "");
        matchDue("A='ab'+;", "abac", 2, 1, 1, "");
        matchDue("A=('a'+)+;", "aaa", 3, 2, 1, "");
        matchDue("A=('a'+'b')+;", "aabab", 5, 2, 1, "");
        matchDue("A=!.;", "", 0, 1, 1, "");
        matchDue("A=&'a'/'b';", "b", 1, 2, 1, "");
        matchDue("A=&.;", "", -1, 1, 1, "");
        matchDue("A='a'/'b'/'c';", "c", 1, 0, 1, "");
        matchDue("A='ax'/'ay'/'az';", "az", 2, 2, 1, "");
        matchDue("A=('ax'/'ay')/'az';", "az", 2, 2, 1, "");
        matchDue("A=/'a';", "a", 0, 1, 1, "");
        matchDue("A='a'//'b';", "c", 0, 1, 1, "");
        matchDue("A=('a'/)'b'/'c';", "c", 1, 0, 1, "");
        matchDue("A=(&'x'/'a')/'c';", "c", 1, 3, 1, "");
        GrammarMachine x = compiled("A='a'*B;B='b';");
        feedAll(x, "aab");
        x.match(true);
        due("tries", x.work(), 2);
        x.match(false);
        due("evaluations", x.work(), 2);
        x.match(true);
        due("tries again", x.work(), 2);
    }

    private static void giveUp() {
        String text = "A='a'A'b'/'a'A'c'/'a';";
        matchDue(text, "aaaa", 1, 30, 5, "");
        matchDue(text, "aaaaaaaaa", 1, 1022, 10, "");
        GrammarMachine x = compiled("A={'a'}A'b'/{'a'}A'c'/{'a'};");
        feedAll(x, "aaaaaaaaaa");
        due("gives up", x.match(true), -2);
        due("it took 1000", x.work(), 1000);
        due("no tree", x.nodes(), 0);
        due("no node", outcome(() -> x.node(0, 0)), INDEX);
        due("the other does not", x.match(false), 1);
        due("its tree", tree(x), "0-1<-1");
        atTheLimit();
    }

    /** D makes one try, and is come to ten times ten times ten times. */
    private static void atTheLimit() {
        GrammarMachine x = compiled("A=BBBBBBBBBB;B=CCCCCCCCCC;C=DDDDDDDDDD;D=!'a';");
        feedAll(x, "b");
        due("just 1000 tries", x.match(true), 0);
        due("they are counted", x.work(), 1000);
        due("and remembered", x.match(false), 0);
        due("evaluations", x.work(), 4);
        GrammarMachine y = compiled("A=BBBBBBBBBB!.;B=CCCCCCCCCC;C=DDDDDDDDDD;D=!'a';");
        feedAll(y, "b");
        due("one more", y.match(true), -2);
        due("it took 1000", y.work(), 1000);
        GrammarMachine z = compiled("A=BBBBBBBBBB'a'?;B=CCCCCCCCCC;C=DDDDDDDDDD;D=!'a';");
        feedAll(z, "b");
        due("a look that spares the one more", z.match(true), 0);
        due("it took 1000 as well", z.work(), 1000);
    }

    // Promise 11: THE MEMORY.
    private static void evaluations() {
        matchDue("A=B/C;B='b';C='c';", "c", 1, 0, 3, "");
        matchDue("A=B?;B='b';", "c", 0, 0, 2, "");
        matchDue("A=B*;B='b';", "bb", 2, 2, 4, "");
        matchDue("A=B+;B='b';", "bb", 2, 1, 4, "");
        matchDue("A=&BB;B='b';", "b", 1, 1, 2, "");
        matchDue("A=!B.;B='b';", "c", 1, 1, 2, "");
        matchDue("A=!B/B;B='b';", "b", 1, 2, 2, "");
        matchDue("A=B'x'/B'y'/B;B='b';", "b", 1, 2, 2, "");
        matchDue("A=.C/.B/.C;B='b';C='c';", "xd", -1, 2, 3, "");
    }

    // Promises 12 and 13.
    private static void nodes() {
        matchDue("A={.};", "a", 1, 0, 1, "0-1<-1");
        matchDue("A={.};", "", -1, 0, 1, "");
        matchDue("A={{.}{.}}{.};", "abc", 3, 0, 1, "0-2<-1 0-1<0 1-2<0 2-3<-1");
        matchDue("A={{{.}}};", "a", 1, 0, 1, "0-1<-1 0-1<0 0-1<1");
        matchDue("A={.}*;", "ab", 2, 2, 1, "0-1<-1 1-2<-1");
        matchDue("A={.{.}'x'}/{.}.;", "aby", 2, 1, 1, "0-1<-1");
        matchDue("A=&{.}.{.};", "ab", 2, 1, 1, "1-2<-1");
        matchDue("A=!{'a'}.{.};", "bb", 2, 1, 1, "1-2<-1");
        matchDue("A=!(!{.}).{.};", "bb", 2, 2, 1, "1-2<-1");
        matchDue("A=({.}'x')?{..};", "ab", 2, 1, 1, "0-2<-1");
        matchDue("A=({.}'x')*{..};", "axab", 4, 2, 1, "0-1<-1 2-4<-1");
        matchDue("A={'('A*')'};", "(()())", 6, 2, 6, "0-6<-1 1-3<0 3-5<0");
        matchDue("A=&B{B};B={.}{.};", "ab", 2, 1, 2, "0-2<-1 0-1<0 1-2<0");
        matchDue("A=B'x'/{B}/.;B={.C};C={.};", "ab", 2, 2, 3, "0-2<-1 0-2<0 1-2<1");
        matchDue("A={B}{C};B='b';C={B};", "bb", 2, 0, 4, "0-1<-1 1-2<-1 1-2<1");
        GrammarMachine x = compiled("A={.};");
        due("no match: nodes", x.nodes(), -1);
        due("fails", x.match(true), -1);
        due("failed: nodes", x.nodes(), 0);
        due("failed: work", x.work(), 0);
    }

    private static void nodeErrors() {
        GrammarMachine x = compiled("A={.}{.};");
        feedAll(x, "ab");
        due("no match: node", outcome(() -> x.node(0, 0)), INDEX);
        x.match(false);
        due("node -1", outcome(() -> x.node(-1, 0)), INDEX);
        due("node 2", outcome(() -> x.node(2, 0)), INDEX);
        due("node 2 and a wrong what", outcome(() -> x.node(2, 3)), INDEX);
        due("least node", outcome(() -> x.node(Integer.MIN_VALUE, -1)), INDEX);
        due("greatest node", outcome(() -> x.node(Integer.MAX_VALUE, 0)), INDEX);
        due("what 3", outcome(() -> x.node(1, 3)), ARGUMENT);
        due("what -1", outcome(() -> x.node(0, -1)), ARGUMENT);
        due("greatest what", outcome(() -> x.node(0, Integer.MAX_VALUE)), ARGUMENT);
        due("node 1", outcome(() -> x.node(1, 1)), 2);
        x.feed('c');
        due("no match after feed: node", outcome(() -> x.node(0, 0)), INDEX);
        x.match(true);
        x.compile();
        due("no match after compile: node", outcome(() -> x.node(0, 0)), INDEX);
        x.match(true);
        x.clear();
        due("no match after clear: node", outcome(() -> x.node(0, 0)), INDEX);
    }

    /** As much as a text has room for, or can be open at once: rows that are too short, or Java's own stack, would show here. */
    private static void deepRuns() {
        GrammarMachine x = compiled("A={{{{{{B}}}}}};B={{{{{{C}}}}}};C={{{{{.A?}}}}};");
        feedAll(x, "0123456789");
        for (int i = 0; i < 4; i++) {
            due("deep match", x.match(i % 2 == 0), 10);
            due("deep nodes", x.nodes(), 170);
            due("deep work", x.work(), i % 2 == 0 ? 9 : 33);
            due("deepest begin", x.node(169, 0), 9);
            due("deepest end", x.node(169, 1), 10);
            due("deepest outer", x.node(169, 2), 168);
        }
        matchDue("A=" + ".+".repeat(23) + ";", "0123456789", -1, 9, 1, "");
        matchDue("A=" + "/".repeat(46) + ".;", "0123456789", 0, 1, 1, "");
        matchDue("A=" + ".?".repeat(23) + ";", "0123456789", 10, 10, 1, "");
        matchDue("A=&(&(&(&(&(&('ab')?)?)?)?)?)?.;", "ab", 1, 12, 1, "");
        matchDue("A=&(&(&(&(&(&('ab')?)?)?)?)?)?.;", "b", 1, 11, 1, "");
        matchDue("A={{{{{{'ab'}+}+}+}+}+}+;", "abab", 4, 1, 1,
                "0-4<-1 0-4<0 0-4<1 0-4<2 0-4<3 0-2<4 2-4<4");
        matchDue("A=&(!(!(&(&(&(.A/!.))))))B;B=C;C=D;D=.?E;E=.*;", "0123456789", 10, 132, 54, "");
    }
}
