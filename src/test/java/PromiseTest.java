import java.lang.annotation.Retention;
import java.lang.annotation.RetentionPolicy;
import java.lang.reflect.Constructor;
import java.lang.reflect.InvocationTargetException;
import java.lang.reflect.Method;
import java.lang.reflect.Modifier;
import java.util.Arrays;
import java.util.Map;
import java.util.TreeMap;
import java.util.TreeSet;

/**
 * A test for each sentence of the document: promise05_... is of promise 5, and of those terms that
 * this promise leans on first. What is due was worked out by hand from the sentence that stands
 * above the test, which is told with every answer that is another one.
 */
public final class PromiseTest {

    /** The words of the document that a test is for. */
    @Retention(RetentionPolicy.RUNTIME)
    private @interface Says {
        String value();
    }

    private interface Call {
        Object answer();
    }

    private interface Asked {
        void ask(GrammarMachine x, char c);
    }

    private static final String ARGUMENT = "IllegalArgumentException";
    private static final String STATE = "IllegalStateException";
    private static final String UNSUPPORTED = "UnsupportedOperationException";
    private static final String INDEX = "IndexOutOfBoundsException";

    private static final String FIFTY = "12345678901234567890123456789012345678901234567890";
    private static final String ALL = all();

    private static int wrong = 0;
    private static String test = "";

    public static void main(String[] args) throws ReflectiveOperationException {
        Map<String, Method> tests = tests();
        for (Map.Entry<String, Method> each : tests.entrySet()) {
            test = each.getKey() + " (" + each.getValue().getAnnotation(Says.class).value() + ")";
            run(each.getValue());
        }
        test = "the tests";
        for (int promise = 1; promise <= 13; promise++) {
            String begin = String.format("promise%02d_", promise);
            due("there is a " + begin, tests.keySet().stream().anyMatch(name -> name.startsWith(begin)), true);
        }
        System.out.println(wrong == 0 ? tests.size() + " sentences hold" : wrong + " answers are not as due");
        if (wrong != 0) {
            System.exit(1);
        }
    }

    private static Map<String, Method> tests() {
        Map<String, Method> found = new TreeMap<>();
        for (Method m : PromiseTest.class.getDeclaredMethods()) {
            if (m.isAnnotationPresent(Says.class)) {
                found.put(m.getName(), m);
            }
        }
        return found;
    }

    /** A test that ends with an exception fails, and the others go on. */
    private static void run(Method m) throws ReflectiveOperationException {
        try {
            m.invoke(null);
        } catch (InvocationTargetException e) {
            due("the test", e.getCause(), "its end");
        }
    }

    private static void due(String what, Object got, Object want) {
        if (!got.equals(want)) {
            wrong++;
            System.out.println(test + ": " + what + " answered " + got + ", due is " + want);
        }
    }

    /** The answer, or the name of the class of what was thrown. */
    private static Object outcome(Call call) {
        try {
            return call.answer();
        } catch (RuntimeException e) {
            return e.getClass().getSimpleName();
        }
    }

    private static String all() {
        StringBuilder characters = new StringBuilder();
        for (char c = 32; c <= 126; c++) {
            characters.append(c);
        }
        return characters.toString();
    }

    private static void typeAll(GrammarMachine x, String text) {
        for (char c : text.toCharArray()) {
            due("type " + c + " of " + text, x.type(c), true);
        }
    }

    private static void retype(GrammarMachine x, String text) {
        x.wipe();
        typeAll(x, text);
    }

    private static void feedAll(GrammarMachine x, String subject) {
        x.clear();
        for (char c : subject.toCharArray()) {
            due("feed " + c + " of " + subject, x.feed(c), true);
        }
    }

    private static GrammarMachine typed(String text) {
        GrammarMachine x = new GrammarMachine();
        typeAll(x, text);
        return x;
    }

    private static GrammarMachine compiled(String text) {
        GrammarMachine x = typed(text);
        due("compile of " + text + " is a number", outcome(x::compile) instanceof Integer, true);
        return x;
    }

    /** Asks for each of the 65536 characters, none of the objects more than 512 times. */
    private static void forEachCharacter(String text, Asked asked) {
        for (int first = 0; first < 1 << 16; first += 128) {
            GrammarMachine x = compiled(text);
            for (int c = first; c < first + 128; c++) {
                asked.ask(x, (char) c);
            }
        }
    }

    /** An object with a grammar and a match: two tries, and two nodes. */
    private static GrammarMachine matched() {
        GrammarMachine x = compiled("Q={'a'}*;");
        feedAll(x, "aa");
        due("match", x.match(true), 2);
        matchStays(x);
        return x;
    }

    private static void matchStays(GrammarMachine x) {
        due("work of the match that stays", x.work(), 2);
        due("tree of the match that stays", tree(x), "0-1<-1 1-2<-1");
    }

    private static void grammarStays(GrammarMachine x) {
        due("empty of the grammar that stays", outcome(() -> x.empty('Q')), true);
        due("head of the grammar that stays", outcome(() -> x.head('Q', 'a')), true);
        due("another head of the grammar that stays", outcome(() -> x.head('Q', 'b')), false);
        due("another name of the grammar that stays", outcome(() -> x.empty('A')), INDEX);
    }

    private static void noMatch(GrammarMachine x) {
        due("work without a match", x.work(), -1);
        due("nodes without a match", x.nodes(), -1);
        due("node without a match", outcome(() -> x.node(0, 0)), INDEX);
    }

    private static void compileDue(String text, Object answer, int fault) {
        GrammarMachine x = typed(text);
        due("compile of " + text, outcome(x::compile), answer);
        due("fault of " + text, x.fault(), fault);
    }

    /** What is a grammar answers how many rules it has. */
    private static void grammars(int rules, String... texts) {
        for (String text : texts) {
            compileDue(text, rules, -1);
        }
    }

    private static void noGrammar(String text, int place) {
        compileDue(text, ARGUMENT, place);
    }

    private static void undefined(String text, char name) {
        compileDue(text, STATE, name);
    }

    private static void runaway(String text, char name) {
        compileDue(text, UNSUPPORTED, name);
    }

    private static String tree(GrammarMachine x) {
        StringBuilder nodes = new StringBuilder();
        for (int i = 0; i < x.nodes(); i++) {
            nodes.append(x.node(i, 0)).append('-').append(x.node(i, 1)).append('<').append(x.node(i, 2)).append(' ');
        }
        return nodes.toString().trim();
    }

    /** Both matchers take the same and have the same tree. */
    private static void takes(String text, String subject, int taken, String tree) {
        GrammarMachine x = compiled(text);
        feedAll(x, subject);
        for (int turn = 0; turn < 4; turn++) {
            boolean machine = turn % 2 == 0;
            String of = (machine ? "machine: " : "memory: ") + text + " with \"" + subject + "\"";
            due("match by the " + of, x.match(machine), taken);
            due("tree by the " + of, tree(x), tree);
        }
    }

    private static void takes(String text, String subject, int taken) {
        takes(text, subject, taken, "");
    }

    /** Whatever the work is, both find the same, unless the machine gives up. */
    private static void workDue(String text, String subject, boolean machine, int work) {
        GrammarMachine x = compiled(text);
        feedAll(x, subject);
        int one = x.match(!machine);
        int other = x.match(machine);
        String of = text + " with \"" + subject + "\"";
        due((machine ? "tries of " : "evaluations of ") + of, x.work(), work);
        if (one != -2 && other != -2) {
            due("match by the one matcher and by the other of " + of, other, one);
        }
    }

    private static void tries(String text, String subject, int tries) {
        workDue(text, subject, true, tries);
    }

    private static void evaluations(String text, String subject, int evaluations) {
        workDue(text, subject, false, evaluations);
    }

    // ---- The public face -------------------------------------------------------------------

    @Says("public final class GrammarMachine")
    private static void face_isPublicAndFinal() {
        int modifiers = GrammarMachine.class.getModifiers();
        due("public", Modifier.isPublic(modifiers), true);
        due("final", Modifier.isFinal(modifiers), true);
        due("package", GrammarMachine.class.getPackageName(), "");
    }

    @Says("public GrammarMachine();")
    private static void face_hasOneConstructor() {
        Constructor<?>[] constructors = GrammarMachine.class.getDeclaredConstructors();
        due("constructors", constructors.length, 1);
        due("public", Modifier.isPublic(constructors[0].getModifiers()), true);
        due("parameters", constructors[0].getParameterCount(), 0);
        due("exceptions", constructors[0].getExceptionTypes().length, 0);
    }

    private static String signature(Method m) {
        StringBuilder all = new StringBuilder(Modifier.toString(m.getModifiers()));
        all.append(' ').append(m.getReturnType()).append(' ').append(m.getName());
        all.append(Arrays.toString(m.getParameterTypes()));
        for (Class<?> thrown : m.getExceptionTypes()) {
            all.append(' ').append(thrown.getSimpleName());
        }
        return all.toString();
    }

    @Says("public int compile() throws IllegalArgumentException, IllegalStateException, "
            + "UnsupportedOperationException;")
    private static void face_hasTheseMethodsAndNoOther() {
        TreeSet<String> found = new TreeSet<>();
        for (Method m : GrammarMachine.class.getDeclaredMethods()) {
            if (!Modifier.isPrivate(m.getModifiers()) && !m.isSynthetic()) {
                found.add(signature(m));
            }
        }
        due("methods", found, new TreeSet<>(Arrays.asList(
                "public boolean type[char]",
                "public void wipe[]",
                "public int compile[] " + ARGUMENT + " " + STATE + " " + UNSUPPORTED,
                "public int fault[]",
                "public boolean empty[char] " + STATE + " " + INDEX,
                "public boolean head[char, char] " + STATE + " " + INDEX,
                "public boolean feed[char]",
                "public void clear[]",
                "public int match[boolean] " + STATE,
                "public int work[]",
                "public int nodes[]",
                "public int node[int, int] " + INDEX + " " + ARGUMENT)));
        due("fields to be seen", GrammarMachine.class.getFields().length, 0);
    }

    @Says("An object is used for at most 512 calls after it has been made")
    private static void face_holdsFor512Calls() {
        GrammarMachine x = new GrammarMachine();
        String text = "A={.}*!.;";
        for (int i = 0; i < 9; i++) {
            x.type(text.charAt(i));
        }
        int calls = 9;
        for (; calls <= 501; calls += 6) {
            due("compile, call " + calls, x.compile(), 1);
            x.feed('a');
            int size = Math.min(10, 1 + (calls - 9) / 6);
            due("memory, call " + calls, x.match(false), size);
            due("machine, call " + calls, x.match(true), size);
            due("work, call " + calls, x.work(), size + 1);
            due("nodes, call " + calls, x.nodes(), size);
        }
        due("calls so far", calls, 507);
        due("call 508", x.node(9, 0), 9);
        due("call 509", x.node(9, 1), 10);
        due("call 510", x.node(9, 2), -1);
        due("call 511", x.match(false), 10);
        due("call 512", x.work(), 1);
    }

    // ---- Promise 1: a new object -----------------------------------------------------------

    @Says("An empty text, no grammar, an empty subject.")
    private static void promise01_theTextIsEmpty() {
        GrammarMachine x = new GrammarMachine();
        due("compile", outcome(x::compile), ARGUMENT);
        due("its fault", x.fault(), 0);
        typeAll(x, FIFTY);
        due("the 51st", x.type('1'), false);
    }

    @Says("An empty text, no grammar, an empty subject.")
    private static void promise01_thereIsNoGrammar() {
        GrammarMachine x = new GrammarMachine();
        due("match by the machine", outcome(() -> x.match(true)), STATE);
        due("match by the other", outcome(() -> x.match(false)), STATE);
        due("empty", outcome(() -> x.empty('A')), STATE);
        due("head", outcome(() -> x.head('A', 'a')), STATE);
        due("fault", x.fault(), -1);
        noMatch(x);
    }

    @Says("An empty text, no grammar, an empty subject.")
    private static void promise01_theSubjectIsEmpty() {
        GrammarMachine x = compiled("A=.*;");
        due("machine", x.match(true), 0);
        due("memory", x.match(false), 0);
        for (int i = 0; i < 10; i++) {
            due("feed", x.feed('a'), true);
        }
        due("the 11th", x.feed('a'), false);
    }

    @Says("An empty text, no grammar, an empty subject.")
    private static void promise01_objectsHaveNothingInCommon() {
        GrammarMachine one = compiled("A='a';");
        feedAll(one, "a");
        one.match(true);
        GrammarMachine other = new GrammarMachine();
        due("text of the other", outcome(other::compile), ARGUMENT);
        due("grammar of the other", outcome(() -> other.match(true)), STATE);
        due("fault of the one", one.fault(), -1);
        typeAll(other, "B='b';");
        due("compile of the other", other.compile(), 1);
        due("subject of the other", other.match(true), -1);
        due("work of the one", one.work(), 0);
        due("grammar of the one", one.match(false), 1);
        due("no rule of the other in the one", outcome(() -> one.empty('B')), INDEX);
    }

    // ---- Promise 2: type -------------------------------------------------------------------

    @Says("Appends a character to the text")
    private static void promise02_appendsBehindTheOthers() {
        GrammarMachine x = typed("A='abc'");
        due("not yet a grammar", outcome(x::compile), ARGUMENT);
        due("fault at its end", x.fault(), 7);
        due("type", x.type(';'), true);
        due("a grammar", x.compile(), 1);
        feedAll(x, "abc");
        due("in the order of the calls", x.match(true), 3);
    }

    @Says("THE TEXT has at most 50 characters 32 .. 126")
    private static void promise02_takesEachFrom32To126() {
        for (char c : ALL.toCharArray()) {
            String text = c == '\'' ? "A=['];" : "A='" + c + "';";
            GrammarMachine x = compiled(text);
            feedAll(x, "" + c);
            due("match of " + text, x.match(true), 1);
        }
    }

    @Says("false, refused, if it is not 32 .. 126 or 50 are there")
    private static void promise02_refusesWhatIsBelow32OrAbove126() {
        forEachCharacter("A=.;", (x, c) -> {
            if (c < 32 || c > 126) {
                due("type " + (int) c, x.type(c), false);
                due("the text after it", outcome(x::compile), 1);
            }
        });
    }

    @Says("false, refused, if it is not 32 .. 126 or 50 are there")
    private static void promise02_refusedInTheMiddleItLeavesTheText() {
        GrammarMachine x = new GrammarMachine();
        for (char c : "A='ab';".toCharArray()) {
            due("type 31", x.type((char) 31), false);
            due("type " + c, x.type(c), true);
            due("type 127", x.type((char) 127), false);
        }
        due("compile", x.compile(), 1);
        feedAll(x, "ab");
        due("match", x.match(true), 2);
    }

    @Says("false, refused, if it is not 32 .. 126 or 50 are there")
    private static void promise02_takesThe50thAndRefusesThe51st() {
        GrammarMachine x = typed("A='" + FIFTY.substring(5) + "'");
        due("49 that are no grammar", outcome(x::compile), ARGUMENT);
        due("their fault", x.fault(), 49);
        due("the 50th", x.type(';'), true);
        due("50 that are a grammar", outcome(x::compile), 1);
        due("the 51st", x.type('B'), false);
        due("the 51st again", x.type(' '), false);
        due("one that is no character, when it is full", x.type((char) 7), false);
        due("the 50 are what they were", outcome(x::compile), 1);
    }

    @Says("Appends a character to the text")
    private static void promise02_leavesAllButTheText() {
        GrammarMachine x = matched();
        due("type", x.type('!'), true);
        due("type of what is refused", x.type((char) 200), false);
        matchStays(x);
        grammarStays(x);
        due("fault", x.fault(), -1);
        due("match as before", x.match(false), 2);
    }

    // ---- Promise 3: wipe -------------------------------------------------------------------

    @Says("The text becomes empty.")
    private static void promise03_theTextIsEmptyThen() {
        GrammarMachine x = typed("A='a';");
        x.wipe();
        due("compile", outcome(x::compile), ARGUMENT);
        due("fault", x.fault(), 0);
        typeAll(x, "B=.;C=;");
        due("what is typed then is all", outcome(x::compile), 2);
    }

    @Says("The text becomes empty.")
    private static void promise03_thereIsRoomFor50Then() {
        GrammarMachine x = typed(FIFTY);
        x.wipe();
        typeAll(x, FIFTY);
        due("the 51st", x.type('1'), false);
    }

    @Says("The text becomes empty.")
    private static void promise03_anEmptyTextStaysEmpty() {
        GrammarMachine x = new GrammarMachine();
        x.wipe();
        x.wipe();
        due("compile", outcome(x::compile), ARGUMENT);
        due("fault", x.fault(), 0);
        typeAll(x, FIFTY);
        due("the 51st", x.type('1'), false);
    }

    @Says("The text becomes empty.")
    private static void promise03_leavesAllButTheText() {
        GrammarMachine x = matched();
        x.wipe();
        matchStays(x);
        grammarStays(x);
        due("fault", x.fault(), -1);
        due("the subject stays", x.match(false), 2);
        typeAll(x, "A=");
        due("compile", outcome(x::compile), ARGUMENT);
        x.wipe();
        due("a fault stays", x.fault(), 2);
    }

    // ---- Promise 4: compile, and THE TEXT --------------------------------------------------

    @Says("Compiles the text: how many rules")
    private static void promise04_answersHowManyRules() {
        String text = "";
        for (int rules = 1; rules <= 8; rules++) {
            text += (char) ('Z' - rules) + "=;";
            grammars(rules, text);
        }
    }

    @Says("It is one or more RULES (at most 8)")
    private static void promise04_noRuleAndNineAreNoGrammar() {
        noGrammar("", 0);
        grammars(8, "A=;B=;C=;D=;E=;F=;G=;H=;");
        noGrammar("A=;B=;C=;D=;E=;F=;G=;H=;I=;", 24);
    }

    @Says("there are no blanks but in quotes and classes")
    private static void promise04_blanksOnlyInQuotesAndClasses() {
        grammars(1, "A=' ';", "A='   ';", "A=[ ];", "A=[ - ];", "A=' a '[ a];");
        String text = "A=&.*/({B}'b');B=[b];";
        grammars(2, text);
        for (int place = 0; place <= text.length(); place++) {
            String blanked = text.substring(0, place) + " " + text.substring(place);
            boolean inQuotes = blanked.contains("' b'") || blanked.contains("'b '");
            if (inQuotes || blanked.contains("[ b]") || blanked.contains("[b ]")) {
                grammars(2, blanked);
            } else {
                noGrammar(blanked, place);
            }
        }
    }

    @Says("a name A .. Z, =, an EXPRESSION, and ;")
    private static void promise04_namesAreFromAToZ() {
        grammars(1, "A=;", "Z=;");
        for (char c : ALL.toCharArray()) {
            if (c < 'A' || c > 'Z') {
                noGrammar(c + "=;", 0);
            }
        }
        undefined("A=Z;", 'A');
        undefined("Z=A;", 'Z');
        noGrammar("A=@;", 2);
        noGrammar("A=a;", 2);
        noGrammar("A=[;", 4);
    }

    @Says("a name A .. Z, =, an EXPRESSION, and ;")
    private static void promise04_aRuleNeedsAllItsParts() {
        noGrammar("A", 1);
        noGrammar("A;", 1);
        noGrammar("A.;", 1);
        noGrammar("AA=;", 1);
        noGrammar("A=", 2);
        noGrammar("A==;", 2);
        noGrammar("A=.", 3);
        noGrammar("A=;;", 3);
        noGrammar("A=;B", 4);
        noGrammar("A=;B=", 5);
    }

    @Says("An expression: one or more SEQUENCES with / between. A sequence: any number of PIECES (also none).")
    private static void promise04_aSequenceMayHaveNoPiece() {
        grammars(1, "A=;", "A=/;", "A=//;", "A=./;", "A=/.;", "A=.//.;", "A=();", "A=(/);", "A=(./)/(/.);");
        grammars(1, "A=" + "/".repeat(47) + ";", "A=" + ".".repeat(47) + ";");
    }

    @Says("A piece: perhaps & or !, then a PRIMARY, then perhaps one of ? * +")
    private static void promise04_aPieceHasOneSignAndOneEndAtMost() {
        grammars(1, "A=.;", "A=&.;", "A=!.;", "A=.?;", "A=.*;", "A=.+;", "A=&.?;", "A=!.*;", "A=&.+!.+;");
        for (String signs : new String[] {"&&", "!!", "&!", "!&"}) {
            noGrammar("A=" + signs + ".;", 3);
        }
        for (String ends : new String[] {"??", "**", "++", "?*", "?+", "*?", "*+", "+?", "+*"}) {
            noGrammar("A=." + ends + ";", 4);
        }
    }

    @Says("A piece: perhaps & or !, then a PRIMARY, then perhaps one of ? * +")
    private static void promise04_aPieceNeedsItsPrimary() {
        for (String end : new String[] {"?", "*", "+"}) {
            noGrammar("A=" + end + ";", 2);
            noGrammar("A=./" + end + ";", 4);
            noGrammar("A=&" + end + ";", 3);
        }
        for (String sign : new String[] {"&", "!"}) {
            noGrammar("A=" + sign + ";", 3);
            noGrammar("A=" + sign + "/.;", 3);
            noGrammar("A=(" + sign + ");", 4);
            noGrammar("A={" + sign + "};", 4);
        }
    }

    @Says("(&e* is & of e*)")
    private static void promise04_theEndIsNearerThanTheSign() {
        grammars(1, "A=&.*;", "A=!.*;", "A=&.+;", "A=!.+;", "A=&.?;");
        runaway("A=(&.)*;", 'A');
        runaway("A=(!.)+;", 'A');
    }

    @Says("' one or more characters but ' and ' (all of them, one after the other)")
    private static void promise04_aRowIsNotEmptyAndHasItsEnd() {
        grammars(1, "A='a';", "A='" + "=;/&!?*+[]-.(){}" + "';", "A='" + FIFTY.substring(5) + "';");
        noGrammar("A='';", 3);
        noGrammar("A='", 3);
        noGrammar("A='a", 4);
        noGrammar("A='a;", 5);
        noGrammar("A='a''", 6);
        noGrammar("A='a'';", 7);
    }

    @Says("[ ITEMS ], at least one item")
    private static void promise04_aClassHasAnItemAndItsEnd() {
        grammars(1, "A=[a];", "A=[-];", "A=[[];", "A=['];", "A=[;];", "A=[a-z0-9_];");
        noGrammar("A=[];", 3);
        noGrammar("A=[", 3);
        noGrammar("A=[]];", 3);
        noGrammar("A=[a", 4);
        noGrammar("A=[a-", 5);
        noGrammar("A=[a-;", 6);
        noGrammar("A=[a]];", 5);
    }

    @Says("( EXPRESSION ); { EXPRESSION } (a CAPTURE)")
    private static void promise04_bracketsMeetTheirOwnKind() {
        grammars(1, "A=();", "A=(.);", "A={.};", "A=({.});", "A={(.)};", "A=(./.)({.}/);");
        noGrammar("A=(", 3);
        noGrammar("A={", 3);
        noGrammar("A=(.;", 4);
        noGrammar("A={.;", 4);
        noGrammar("A=(.};", 4);
        noGrammar("A={.);", 4);
        noGrammar("A=.);", 3);
        noGrammar("A=.};", 3);
        noGrammar("A=);", 2);
        noGrammar("A=};", 2);
        noGrammar("A=({.)};", 5);
    }

    @Says("At most 6 brackets ( and { are in one another.")
    private static void promise04_theSeventhBracketIsTooDeep() {
        grammars(1, "A=((((((.))))));", "A={{{{{{.}}}}}};", "A=({({({.})})});", "A={({({(.)})})};");
        noGrammar("A=(((((((.)))))));", 8);
        noGrammar("A={{{{{{{.}}}}}}};", 8);
        noGrammar("A=({({({(.)})})});", 8);
        noGrammar("A=((((((.{.}))))));", 9);
    }

    @Says("At most 6 brackets ( and { are in one another.")
    private static void promise04_bracketsBesideOneAnotherAreFree() {
        grammars(1, "A=((((((.))))))((((((.))))));", "A=(((((())(())))))(((((())))));", "A=" + "()".repeat(23) + ";");
        grammars(2, "A=((((((.))))));B=((((((.))))));");
        grammars(1, "A=(((((('(('))))));", "A=(((((([({]))))));");
        noGrammar("A=((((((.))))))(((((((.)))))));", 21);
    }

    @Says("No name has two rules.")
    private static void promise04_aNameHasOneRule() {
        noGrammar("A=.;A=.;", 4);
        noGrammar("A=.;B=.;A=.;", 8);
        noGrammar("A=;B=;C=;D=;E=;F=;G=;G=;", 21);
        grammars(2, "A=B;B=.;");
    }

    @Says("Compiles the text: how many rules; there is no match then.")
    private static void promise04_thereIsNoMatchThen() {
        GrammarMachine x = matched();
        due("compile of the same text", x.compile(), 1);
        noMatch(x);
        due("match", x.match(true), 2);
        matchStays(x);
        retype(x, "A=.;");
        due("compile of another text", x.compile(), 1);
        noMatch(x);
        due("the new grammar", x.match(true), 1);
        due("the old one is gone", outcome(() -> x.empty('Q')), INDEX);
    }

    @Says("IllegalArgumentException if it is no grammar; IllegalStateException if a rule is undefined")
    private static void promise04_theFirstOfTheReasonsIsThrown() {
        noGrammar("A=B;A=A;", 4);
        noGrammar("A=A;B={};C=D", 12);
        undefined("A=A;B=C;", 'B');
        undefined("A={};B=C;", 'B');
        runaway("A=.;B=B;", 'B');
    }

    @Says("What throws leaves the grammar, and the match, that were there, but fault() tells why.")
    private static void promise04_whatThrowsLeavesGrammarAndMatch() {
        GrammarMachine x = matched();
        String[] texts = {"A='b'", "A='b'B;", "A='b';B=B;", "A='b';B={};", ""};
        String[] thrown = {ARGUMENT, STATE, UNSUPPORTED, UNSUPPORTED, ARGUMENT};
        int[] faults = {5, 'A', 'B', 'B', 0};
        for (int i = 0; i < texts.length; i++) {
            retype(x, texts[i]);
            due("compile of " + texts[i], outcome(x::compile), thrown[i]);
            due("fault of " + texts[i], x.fault(), faults[i]);
            matchStays(x);
            grammarStays(x);
        }
        due("it matches as before", x.match(false), 2);
        due("by the machine too", x.match(true), 2);
        matchStays(x);
    }

    @Says("What throws leaves the grammar, and the match, that were there")
    private static void promise04_whatThrowsLeavesTheLatestGrammar() {
        GrammarMachine x = compiled("A='a';");
        feedAll(x, "bb");
        due("the first grammar", x.match(true), -1);
        retype(x, "B='b';");
        due("another one", x.compile(), 1);
        retype(x, "C='c'C");
        due("none", outcome(x::compile), ARGUMENT);
        due("none again", outcome(x::compile), ARGUMENT);
        due("the latest one is there", x.match(true), 1);
        due("with its name", x.empty('B'), false);
        due("without the first one's", outcome(() -> x.empty('A')), INDEX);
        due("without that of the text", outcome(() -> x.empty('C')), INDEX);
    }

    @Says("What throws leaves the grammar, and the match, that were there")
    private static void promise04_whatThrowsLeavesNoGrammarIfThereWasNone() {
        for (String text : new String[] {"A=.", "A=B;", "A=A;", "A={};"}) {
            GrammarMachine x = typed(text);
            due("compile is refused", outcome(x::compile) instanceof String, true);
            due("match after " + text, outcome(() -> x.match(true)), STATE);
            due("empty after " + text, outcome(() -> x.empty('A')), STATE);
            due("head after " + text, outcome(() -> x.head('A', 'a')), STATE);
            noMatch(x);
        }
    }

    @Says("What throws leaves the grammar, and the match, that were there")
    private static void promise04_nothingIsLeftOfATextThatWasRefused() {
        GrammarMachine x = typed("A={.};C=.?;D=D;");
        due("compile", outcome(x::compile), UNSUPPORTED);
        retype(x, "A={C};C=C;");
        due("what was empty", outcome(x::compile), UNSUPPORTED);
        due("is not for ever", x.fault(), (int) 'C');
        retype(x, "A=B;B=A;");
        due("what began with A", outcome(x::compile), UNSUPPORTED);
        retype(x, "A=B;B=B;");
        due("may begin with B", outcome(x::compile), UNSUPPORTED);
        due("alone", x.fault(), (int) 'B');
        retype(x, "A=[!a~];");
        due("a class", x.compile(), 1);
        retype(x, "A=[!a~]");
        due("none", outcome(x::compile), ARGUMENT);
        retype(x, "A=[#b];");
        due("another class", x.compile(), 1);
        for (char c : ALL.toCharArray()) {
            due("its head has " + c, x.head('A', c), c == '#' || c == 'b');
        }
    }

    @Says("What throws leaves the grammar, and the match, that were there")
    private static void promise04_asOftenAsItIsRefused() {
        GrammarMachine x = typed("A=&(.!(.{.(.{.(.?;");
        for (int i = 0; i < 200; i++) {
            due("compile", outcome(x::compile), ARGUMENT);
        }
        retype(x, "A={{.}{.}}({.}{.}/{.})*;B=&(!(&(.)));C=.?;");
        feedAll(x, "abcde");
        for (int i = 0; i < 10; i++) {
            due("compile", outcome(x::compile), 3);
            due("match", x.match(true), 5);
            due("nodes", x.nodes(), 6);
        }
        due("tree", tree(x), "0-2<-1 0-1<0 1-2<0 2-3<-1 3-4<-1 4-5<-1");
    }

    @Says("The text stays.")
    private static void promise04_theTextStays() {
        GrammarMachine x = typed("A=");
        due("no grammar", outcome(x::compile), ARGUMENT);
        typeAll(x, "B;");
        due("undefined", outcome(x::compile), STATE);
        due("undefined again", outcome(x::compile), STATE);
        typeAll(x, "B=B;");
        due("left recursive", outcome(x::compile), UNSUPPORTED);
        due("left recursive again", outcome(x::compile), UNSUPPORTED);
        retype(x, "A=.;");
        due("a grammar", outcome(x::compile), 1);
        due("a grammar again", outcome(x::compile), 1);
        typeAll(x, "B=A;");
        due("it goes on", outcome(x::compile), 2);
    }

    @Says("A rule is UNDEFINED if its expression has a name without a rule")
    private static void promise04_undefinedWhereverTheNameStands() {
        String[] parts = {"B", ".B", "B.", "./B", "B?", "B*", "B+", "&B", "!B", "(B)", "{B}", "((.{.B?}))"};
        for (String e : parts) {
            undefined("A=" + e + ";", 'A');
        }
        grammars(1, "A='B';", "A=[B];", "A='B'[B-D].;");
    }

    @Says("(this, and all that follows, is asked of rules to which nothing comes, too)")
    private static void promise04_rulesToWhichNothingComesAreAsked() {
        undefined("A=.;B=C;", 'B');
        undefined("A=.;B='b'B/D;", 'B');
        runaway("A=.;B=B;", 'B');
        runaway("A=.;B=C;C=B;", 'B');
        runaway("A=.;B={};", 'B');
        runaway("A=.;B=.(.?)*;", 'B');
    }

    @Says("a sequence begins with the names that its first piece begins with, and, if that is empty, with "
            + "those of the rest")
    private static void promise04_leftRecursiveBySequences() {
        runaway("A=A;", 'A');
        runaway("A=A.;", 'A');
        runaway("A=.?A;", 'A');
        runaway("A=.*A;", 'A');
        runaway("A=&.!.A;", 'A');
        runaway("A=()A;", 'A');
        runaway("A=(/.)A;", 'A');
        runaway("A=.?.*A;", 'A');
    }

    @Says("UnsupportedOperationException if one is left recursive or endless.")
    private static void promise04_oneRuleThatCouldRunForEverIsEnough() {
        runaway("A=.;B=.;C=.;D=.;E=.;F=.;G=.;H=H;", 'H');
        runaway("A=.;B=.;C=.;D=.;E=.;F=.;G=.;H=()*;", 'H');
        runaway("A=A;B=.;C=.;D=.;E=.;F=.;G=.;H=.;", 'A');
        grammars(8, "A=.;B=.;C=.;D=.;E=.;F=.;G=.;H=.;");
    }

    @Says("A rule is LEFT RECURSIVE if it can come to itself without taking a character")
    private static void promise04_comingToItselfBehindACharacterIsFree() {
        grammars(1, "A=.A/;", "A=.+A/;", "A='a'A?;", "A=[a]A?;", "A=.?.A/;", "A={.}A/;", "A=(./.)A/.;");
        grammars(2, "A=BA/;B=.;", "A=B;B=.A/.;");
    }

    @Says("any other expression with those of all its parts")
    private static void promise04_leftRecursiveByOtherParts() {
        String[] parts = {"./A.", "A/.", "././A", "A?", "(A.)*", "(A.)+", "&A.", "!A.", "(A)", "{A.}", ".?({(A.)})"};
        for (String e : parts) {
            runaway("A=" + e + ";", 'A');
        }
        grammars(1, "A=(.&A)/.;", "A=.!A/.;", "A=(.A)*;", "A=(.A?)+;", "A={.A?};");
    }

    @Says("a name with itself, and with those that its rule begins with, and so on")
    private static void promise04_leftRecursiveThroughOtherRules() {
        runaway("A=B;B=A;", 'A');
        runaway("A=B;B=B;", 'B');
        runaway("A=.;B=C;C=D;D=E;E=F;F=G;G=H;H=B;", 'B');
        runaway("A=.;B=C;C=D;D=E;E=F;F=G;G=H;H=D;", 'D');
        runaway("A=H;H=G;G=F;F=E;E=D;D=C;C=B;B=A;", 'A');
        runaway("A=BA/.;B=;", 'A');
        runaway("A=BA/.;B=C;C='x'/D;D='y'?;", 'A');
        grammars(4, "A=BA/.;B=C;C='x'/D;D='y'+;");
    }

    @Says("A rule is ENDLESS if it has e*, e+ or { e } with an empty e.")
    private static void promise04_endless() {
        for (String e : new String[] {"", ".?", ".*", "&.", "!.", "./", "/.", "()", ".?.*", "(.?)"}) {
            runaway("A=(" + e + ")*;", 'A');
            runaway("A=(" + e + ")+;", 'A');
            runaway("A={" + e + "};", 'A');
            grammars(1, "A=(" + e + ")?;", "A=&(" + e + ");", "A=!(" + e + ");", "A=(" + e + ");");
        }
        for (String e : new String[] {".", "'a'", "[a]", ".+", ".?.", "&..", "./.", "(.)"}) {
            grammars(1, "A=(" + e + ")*;", "A=(" + e + ")+;", "A={" + e + "};");
        }
    }

    @Says("A rule is ENDLESS if it has e*, e+ or { e } with an empty e.")
    private static void promise04_endlessAnywhereInTheRule() {
        runaway("A=.(.(.{.?}));", 'A');
        runaway("A=./'a'()*;", 'A');
        runaway("A=!(.&(()+));", 'A');
        runaway("A=.;B={C};C=.*;", 'B');
        runaway("A=.;C=.*;B=(CC)+;", 'B');
        runaway("A=.B*;B='x'/C;C=.?;", 'A');
        runaway("A=" + "{}".repeat(23) + ";", 'A');
        runaway("A=B+;B=C;C=D;D=E;E=F;F=G;G=H;H=;", 'A');
        runaway("A=.A+/B;B=C;C=D;D=E;E=F;F=G;G=H;H=;", 'A');
        grammars(8, "A=B+;B=C;C=D;D=E;E=F;F=G;G=H;H=.;");
    }

    // ---- Promise 5: fault ------------------------------------------------------------------

    @Says("-1 if it did not throw, or there was none")
    private static void promise05_minusOneWithoutAFault() {
        GrammarMachine x = new GrammarMachine();
        due("no compile yet", x.fault(), -1);
        typeAll(x, "A=");
        due("still none", x.fault(), -1);
        due("compile", outcome(x::compile), ARGUMENT);
        typeAll(x, ";");
        due("compile", outcome(x::compile), 1);
        due("it did not throw", x.fault(), -1);
    }

    @Says("Why the latest compile() threw")
    private static void promise05_theLatestCompileOnly() {
        GrammarMachine x = typed("A=");
        due("compile", outcome(x::compile), ARGUMENT);
        due("a place", x.fault(), 2);
        typeAll(x, "B;");
        due("not before compile", x.fault(), 2);
        due("compile", outcome(x::compile), STATE);
        due("the undefined one", x.fault(), (int) 'A');
        typeAll(x, "B=A;");
        due("compile", outcome(x::compile), UNSUPPORTED);
        due("the left recursive one", x.fault(), (int) 'A');
        x.wipe();
        x.feed('a');
        x.clear();
        due("match", outcome(() -> x.match(true)), STATE);
        due("no other call changes it", x.fault(), (int) 'A');
        due("nor does asking", x.fault(), (int) 'A');
        due("compile of the empty text", outcome(x::compile), ARGUMENT);
        due("its place", x.fault(), 0);
    }

    @Says("the place of the text (from 0; its length at its end)")
    private static void promise05_theLengthIfOnlyMoreIsMissing() {
        String text = "A=&(.*/{B}+)[a-z]!'b'?;B=.;";
        for (int length = 0; length < text.length(); length++) {
            if (length == text.indexOf(';') + 1) {
                undefined(text.substring(0, length), 'A');
            } else {
                noGrammar(text.substring(0, length), length);
            }
        }
        grammars(2, text);
    }

    @Says("before which it is the beginning of a grammar, however long, and with which it is none")
    private static void promise05_thePlaceIsThatOfTheFirstWrongCharacter() {
        noGrammar("a=;", 0);
        noGrammar("A=~;A=~;", 2);
        noGrammar("A=B=;", 3);
        noGrammar("A=(=);", 3);
        noGrammar("A=.;;", 4);
        noGrammar("A='';B='';", 3);
        noGrammar("A=];", 2);
        noGrammar("A=-;", 2);
        noGrammar("A=\";", 2);
    }

    @Says("however long")
    private static void promise05_aTextThatHasNoRoomForItsEndIsWrongAtItsEnd() {
        noGrammar("A='" + FIFTY.substring(3), 50);
        noGrammar("A=((((((" + ".".repeat(42), 50);
        noGrammar("A=" + "{}".repeat(21) + "{{{{{{", 50);
        noGrammar("A=" + "/".repeat(48), 50);
        noGrammar("A=" + ".+".repeat(24), 50);
        noGrammar("A=;B=;C=;D=;E=;F=;G=;H=" + ".".repeat(27), 50);
        noGrammar("A=" + ".".repeat(46) + ";B", 50);
    }

    @Says("no place is above 50")
    private static void promise05_theLastPlaceIs49AndTheEndIs50() {
        noGrammar("A=" + ".".repeat(47) + ")", 49);
        noGrammar("A=" + ".".repeat(46) + ";;", 49);
        noGrammar("A=" + ".".repeat(48), 50);
        GrammarMachine x = typed("A=" + ".".repeat(48));
        due("the 51st", x.type(';'), false);
        due("compile", outcome(x::compile), ARGUMENT);
        due("fault", x.fault(), 50);
    }

    @Says("or the name (its character, 65 and more")
    private static void promise05_namesAreTheirCharacters() {
        for (char name = 'A'; name <= 'Z'; name++) {
            undefined(name + "=.?" + (name == 'K' ? 'L' : 'K') + ";", name);
            runaway(name + "=" + name + ";", name);
            runaway(name + "={};", name);
        }
    }

    @Says("of the first rule, in the order of the text, that is undefined")
    private static void promise05_theFirstUndefinedRuleOfTheText() {
        undefined("B=C;A=D;", 'B');
        undefined("B=.;Z=Y;A=D;", 'Z');
        undefined("A=B;B='x'/!(.{D}?);C=E;", 'B');
        undefined("H=.;G=.;F=.;E=.;D=.;C=.;B=.;A=I;", 'A');
    }

    @Says("or else that is left recursive or endless")
    private static void promise05_theFirstThatIsLeftRecursiveOrEndless() {
        runaway("A=.;B=B;C={};", 'B');
        runaway("A=.;C={};B=B;", 'C');
        runaway("C=.;B=.(.(.{.?}));A=A;", 'B');
        runaway("A={C};C=C;", 'C');
        runaway("A={B};B=A/;", 'A');
        runaway("A=.B*;B=C?;C=.;D=D;", 'A');
        undefined("A=A;B={};C=D;", 'C');
    }

    // ---- Promise 6: empty ------------------------------------------------------------------

    private static void emptyDue(String text, boolean want) {
        due("A is empty in " + text, compiled(text).empty('A'), want);
    }

    @Says("a sequence if all its pieces are, one with / if some sequence is")
    private static void promise06_sequencesAndChoices() {
        emptyDue("A=;", true);
        emptyDue("A=();", true);
        emptyDue("A=.?.*;", true);
        emptyDue("A=.?.;", false);
        emptyDue("A=..?;", false);
        emptyDue("A=.?..?;", false);
        emptyDue("A=./;", true);
        emptyDue("A=/.;", true);
        emptyDue("A=././.?;", true);
        emptyDue("A=././.;", false);
    }

    @Says("e? and e*, &e and !e always, e+ and a capture if e is")
    private static void promise06_signsAndEnds() {
        emptyDue("A=.?;", true);
        emptyDue("A=.*;", true);
        emptyDue("A=&.;", true);
        emptyDue("A=!.;", true);
        emptyDue("A=&(..);", true);
        emptyDue("A=!(..);", true);
        emptyDue("A=.+;", false);
        emptyDue("A=(./.)+;", false);
        emptyDue("A={.};", false);
        emptyDue("A={.?.};", false);
        emptyDue("A=(.?);", true);
        emptyDue("A=(.);", false);
    }

    @Says("An expression is EMPTY if it can match without taking a character, as far as that is seen "
            + "without looking at characters")
    private static void promise06_withoutLookingAtCharacters() {
        emptyDue("A='a';", false);
        emptyDue("A=[a];", false);
        emptyDue("A=.;", false);
        emptyDue("A=!();", true);
        emptyDue("A=&.!.;", true);
    }

    @Says("a name if its rule's expression is")
    private static void promise06_namesAsTheirRules() {
        emptyDue("A=B;B=C;C=D;D=E;E=F;F=G;G=H;H=;", true);
        emptyDue("A=B;B=C;C=D;D=E;E=F;F=G;G=H;H=.;", false);
        emptyDue("H=;G=H;F=G;E=F;D=E;C=D;B=C;A=B;", true);
        emptyDue("A=BC;B=.?;C=.?;", true);
        emptyDue("A=BC;B=.?;C=.;", false);
        emptyDue("A=B+'x'?;B=C.;C=;", false);
    }

    @Says("(one that could be so by itself alone is not: C of C=C;)")
    private static void promise06_notByItselfAlone() {
        emptyDue("A=.A;", false);
        emptyDue("A=.A/.;", false);
        runaway("C=C;", 'C');
        runaway("A={C};C=C;", 'C');
        runaway("A=.;B=C+;C=D;D=C;", 'C');
        runaway("A=CA/.;C=C;", 'C');
        runaway("A=CA/.;C=C/;", 'A');
    }

    @Says("Whether a rule is empty.")
    private static void promise06_ofTheRuleThatIsAskedFor() {
        GrammarMachine x = compiled("A=.;B=.?;Z=;");
        due("A", x.empty('A'), false);
        due("B", x.empty('B'), true);
        due("Z", x.empty('Z'), true);
    }

    @Says("IllegalStateException if there is no grammar; IndexOutOfBoundsException if it has no such name.")
    private static void promise06_noGrammarComesFirst() {
        GrammarMachine x = typed("A=;");
        for (char name : new char[] {'A', 'B', 'a', 0, 65535}) {
            due("no grammar: empty " + (int) name, outcome(() -> x.empty(name)), STATE);
        }
    }

    @Says("IllegalStateException if there is no grammar; IndexOutOfBoundsException if it has no such name.")
    private static void promise06_noSuchName() {
        forEachCharacter("B=;Y=;", (x, c) -> {
            Object want = c == 'B' || c == 'Y' ? (Object) true : INDEX;
            due("empty " + (int) c, outcome(() -> x.empty(c)), want);
        });
    }

    // ---- Promise 7: head -------------------------------------------------------------------

    private static void headDue(String text, String in) {
        GrammarMachine x = compiled(text);
        for (char c = 0; c < 300; c++) {
            due((int) c + " in the head of " + text, x.head('A', c), in.indexOf(c) >= 0);
        }
    }

    /** What is in the head of a class is what it takes. */
    private static void classDue(String items, String in) {
        headDue("A=[" + items + "];", in);
        GrammarMachine x = compiled("A=[" + items + "];");
        for (char c : ALL.toCharArray()) {
            feedAll(x, "" + c);
            due("[" + items + "] takes " + c, x.match(true), in.indexOf(c) >= 0 ? 1 : -1);
        }
    }

    @Says("of a row its first one")
    private static void promise07_rows() {
        headDue("A='xyz';", "x");
        headDue("A=' ';", " ");
        headDue("A='~ ';", "~");
    }

    @Says("of a class or . those that fit")
    private static void promise07_classes() {
        headDue("A=.;", ALL);
        headDue("A=[a];", "a");
        headDue("A=[ ~];", " ~");
        headDue("A=[^-a];", "^_`a");
        headDue("A=[ -~];", ALL);
        headDue("A=[|-~ -\"];", "|}~ !\"");
        headDue("A=[a-a];", "a");
    }

    @Says("itself where no item could have it as its sign (so [z-a] is z, - and a, [a-b-a] is a-b, - and "
            + "a, [a--] is a, - and -; [--a] is from - to a)")
    private static void promise07_theSignOfAnItem() {
        classDue("z-a", "z-a");
        classDue("a-b-a", "ab-");
        classDue("a--", "a-");
        classDue("--a", ALL.substring('-' - 32, 'a' - 32 + 1));
        classDue("-", "-");
        classDue("--", "-");
        classDue("---", "-");
        classDue("----", "-");
        classDue("-a", "-a");
        classDue("a-", "a-");
        classDue("+--", "+,-");
        classDue("--/", "-./");
        classDue("z--/", "z-./");
        classDue("z-a-c", "z-abc");
        classDue("a-b-d", "ab-d");
        classDue("Z-\\-^", "Z[\\-^");
    }

    @Says("a character but ], or such a one, - and another one that is not less (any one that is in an item)")
    private static void promise07_itemsFromOneToAnother() {
        classDue("b-c", "bc");
        classDue("b-b", "b");
        classDue("b-a", "b-a");
        classDue("\\-^", "\\]^");
        classDue("!-#%", "!\"#%");
        classDue("aab-ca", "abc");
    }

    @Says("of a sequence that of its first piece, and, as long as the pieces are empty, of the next one")
    private static void promise07_sequences() {
        headDue("A=;", "");
        headDue("A=[a-c]'d';", "abc");
        headDue("A='a'?'b';", "ab");
        headDue("A='a'?'b'*'c'+'d';", "abc");
        headDue("A='a'?'b'*'c'?'d';", "abcd");
        headDue("A='a'?();", "a");
        headDue("A=()'a';", "a");
        headDue("A='a'('b'/)'c';", "a");
        headDue("A=('b'/)'c''d';", "bc");
    }

    @Says("of e1/e2 those of both; of & and ! none; of others that of e")
    private static void promise07_others() {
        headDue("A='a'/'b'/'c'/;", "abc");
        headDue("A=/'b';", "b");
        headDue("A=&'a';", "");
        headDue("A=!'a';", "");
        headDue("A=&'a''b';", "b");
        headDue("A=!'a'.;", ALL);
        headDue("A='a'?;", "a");
        headDue("A='a'*;", "a");
        headDue("A='a'+;", "a");
        headDue("A={'a'};", "a");
        headDue("A=({'a'/'b'?'c'});", "abc");
        headDue("A=(&'a')?'b';", "b");
    }

    @Says("of others that of e")
    private static void promise07_namesAsTheirRules() {
        headDue("A=B;B=C;C=D;D=E;E=F;F=G;G=H;H='h';", "h");
        headDue("H='h';G=H;F=G;E=F;D=E;C=D;B=C;A=B;", "h");
        headDue("A=B'x';B='b'*C?;C='c'B;", "bcx");
        headDue("A='a'A/'b';", "ab");
    }

    @Says("Whether a character is in the head of a rule (none but 32 .. 126 is).")
    private static void promise07_noneBut32To126() {
        forEachCharacter("A=.;", (x, c) -> due("head A " + (int) c, x.head('A', c), c >= 32 && c <= 126));
        forEachCharacter("A=.;B='b';", (x, c) -> due("head B " + (int) c, x.head('B', c), c == 'b'));
    }

    @Says("Exceptions as with empty.")
    private static void promise07_noGrammarComesFirst() {
        GrammarMachine x = typed("A='a';");
        for (char name : new char[] {'A', 'B', 'a', 0, 65535}) {
            due("no grammar: head " + (int) name, outcome(() -> x.head(name, 'a')), STATE);
            due("no grammar, no character: head " + (int) name, outcome(() -> x.head(name, (char) 3)), STATE);
        }
    }

    @Says("Exceptions as with empty.")
    private static void promise07_noSuchName() {
        forEachCharacter("B='b';Y='b';", (x, c) -> {
            Object want = c == 'B' || c == 'Y' ? (Object) true : INDEX;
            due("head " + (int) c, outcome(() -> x.head(c, 'b')), want);
        });
        GrammarMachine x = compiled("B='b';");
        due("no such name, no character", outcome(() -> x.head('A', (char) 127)), INDEX);
        due("such a name, no character", outcome(() -> x.head('B', (char) 127)), false);
    }

    // ---- Promise 8: feed -------------------------------------------------------------------

    @Says("Appends a character to the subject")
    private static void promise08_appendsBehindTheOthers() {
        GrammarMachine x = compiled("A='abc'/'ab'/'a';");
        int taken = 0;
        for (char c : "abc".toCharArray()) {
            due("feed", x.feed(c), true);
            taken++;
            due("match", x.match(true), taken);
        }
    }

    @Says("false, refused, if it is not 32 .. 126 or 10 are there")
    private static void promise08_refusesWhatIsBelow32OrAbove126() {
        forEachCharacter("A=.*;", (x, c) -> {
            if (c < 32 || c > 126) {
                due("feed " + (int) c, x.feed(c), false);
            } else if (c == 126) {
                due("none of them is in the subject", x.match(true), 0);
            }
        });
        GrammarMachine x = compiled("A=.*;");
        due("feed 31", x.feed((char) 31), false);
        due("feed 127", x.feed((char) 127), false);
        due("feed of a character and 256", x.feed((char) (256 + 'a')), false);
        due("none of them is in the subject", x.match(false), 0);
    }

    @Says("SUBJECT (a row of at most 10 characters 32 .. 126)")
    private static void promise08_takesEachFrom32To126() {
        for (char c : ALL.toCharArray()) {
            GrammarMachine x = compiled("A=[ -~];");
            due("feed " + c, x.feed(c), true);
            due("match " + c, x.match(true), 1);
        }
    }

    @Says("false, refused, if it is not 32 .. 126 or 10 are there")
    private static void promise08_takesThe10thAndRefusesThe11th() {
        GrammarMachine x = compiled("A=[0-9]*;");
        for (char c = '0'; c <= '8'; c++) {
            due("feed " + c, x.feed(c), true);
        }
        due("9", x.match(true), 9);
        due("the 10th", x.feed('9'), true);
        due("10", x.match(true), 10);
        due("the 11th", x.feed('0'), false);
        due("the 11th again", x.feed('1'), false);
        due("one that is no character, when it is full", x.feed((char) 31), false);
        due("still 10", x.match(false), 10);
    }

    @Says("There is no match then (if it is not refused).")
    private static void promise08_thereIsNoMatchThen() {
        GrammarMachine x = matched();
        due("feed", x.feed('b'), true);
        noMatch(x);
        due("match", x.match(true), 2);
        matchStays(x);
    }

    @Says("There is no match then (if it is not refused).")
    private static void promise08_whatIsRefusedLeavesTheMatch() {
        GrammarMachine x = matched();
        due("feed 31", x.feed((char) 31), false);
        due("feed 127", x.feed((char) 127), false);
        matchStays(x);
        feedAll(x, "aabbbbbbbb");
        due("match", x.match(true), 2);
        due("the 11th", x.feed('a'), false);
        matchStays(x);
    }

    @Says("Appends a character to the subject")
    private static void promise08_needsNoGrammar() {
        GrammarMachine x = new GrammarMachine();
        due("feed", x.feed('a'), true);
        noMatch(x);
        typeAll(x, "A=.;");
        due("compile", x.compile(), 1);
        due("the subject is there", x.match(true), 1);
    }

    // ---- Promise 9: clear ------------------------------------------------------------------

    @Says("The subject becomes empty; there is no match then.")
    private static void promise09_theSubjectIsEmptyThen() {
        GrammarMachine x = compiled("A=.*;");
        feedAll(x, "0123456789");
        x.clear();
        due("match", x.match(true), 0);
        due("match", x.match(false), 0);
        for (int i = 0; i < 10; i++) {
            due("room for 10", x.feed('a'), true);
        }
        due("the 11th", x.feed('a'), false);
        due("10", x.match(true), 10);
    }

    @Says("The subject becomes empty; there is no match then.")
    private static void promise09_thereIsNoMatchThen() {
        GrammarMachine x = matched();
        x.clear();
        noMatch(x);
    }

    @Says("The subject becomes empty; there is no match then.")
    private static void promise09_noMatchThoughTheSubjectWasEmpty() {
        GrammarMachine x = compiled("A=.*;");
        due("match", x.match(true), 0);
        due("work", x.work(), 0);
        x.clear();
        noMatch(x);
        x.clear();
        noMatch(x);
        due("match", x.match(false), 0);
    }

    @Says("The subject becomes empty; there is no match then.")
    private static void promise09_leavesTextGrammarAndFault() {
        GrammarMachine x = matched();
        x.clear();
        grammarStays(x);
        due("fault", x.fault(), -1);
        due("text", x.compile(), 1);
    }

    // ---- Promise 10: match, and MATCHING ---------------------------------------------------

    @Says("a row in quotes, a class, . what is there, if it is so")
    private static void promise10_characters() {
        takes("A='abc';", "abcd", 3);
        takes("A='abc';", "abd", -1);
        takes("A='abc';", "ab", -1);
        takes("A='abc';", "", -1);
        takes("A='abc';", "xabc", -1);
        takes("A='0123456789';", "0123456789", 10);
        takes("A='01234567890';", "0123456789", -1);
        takes("A=[a-c];", "b", 1);
        takes("A=[a-c];", "d", -1);
        takes("A=[a-c];", "", -1);
        takes("A=.;", " ", 1);
        takes("A=.;", "~", 1);
        takes("A=.;", "", -1);
    }

    @Says(". (any character)")
    private static void promise10_anyCharacter() {
        GrammarMachine x = compiled("A=.;");
        for (char c : ALL.toCharArray()) {
            feedAll(x, "" + c);
            due("machine takes " + c, x.match(true), 1);
            due("memory takes " + c, x.match(false), 1);
        }
    }

    @Says("a sequence its pieces, one behind the other, if none fails")
    private static void promise10_sequences() {
        takes("A=;", "abc", 0);
        takes("A=;", "", 0);
        takes("A='a'.[c];", "abc", 3);
        takes("A='a'.[c];", "abd", -1);
        takes("A='a'.[c];", "ab", -1);
        takes("A=..........;", "0123456789", 10);
        takes("A=...........;", "0123456789", -1);
    }

    @Says("e1/e2 what e1 takes, or, if that fails, what e2 takes from the same place")
    private static void promise10_choices() {
        takes("A='a'/'ab';", "ab", 1);
        takes("A='ab'/'a';", "ab", 2);
        takes("A='ab'/'a';", "ac", 1);
        takes("A='abc'/'abd'/'ab';", "abd", 3);
        takes("A='ab'/'ac';", "ad", -1);
        takes("A=/'a';", "a", 0);
        takes("A='a'/;", "b", 0);
        takes("A=('a'/'ab')'c';", "abc", -1);
        takes("A=('ab'/'a')'bc';", "abc", -1);
        takes("A=.('ab'/'ac').;", "xacx", 4);
    }

    @Says("e? what e takes, or nothing; e* what e takes, again and again until it fails; e+ likewise, but "
            + "e has to match once")
    private static void promise10_repetitions() {
        takes("A='ab'?;", "abab", 2);
        takes("A='ab'?;", "ac", 0);
        takes("A='ab'?;", "a", 0);
        takes("A='a'?'a';", "a", -1);
        takes("A='ab'*;", "ababac", 4);
        takes("A='ab'*;", "ba", 0);
        takes("A='ab'*;", "", 0);
        takes("A='a'*'a';", "aaa", -1);
        takes("A='ab'+;", "ababac", 4);
        takes("A='ab'+;", "ab", 2);
        takes("A='ab'+;", "ac", -1);
        takes("A='ab'+;", "", -1);
        takes("A=.*;", "0123456789", 10);
        takes("A=.+;", "0123456789", 10);
    }

    @Says("&e nothing, if e matches; !e nothing, if e fails")
    private static void promise10_looksAhead() {
        takes("A=&'ab'.;", "ab", 1);
        takes("A=&'ab'.;", "ac", -1);
        takes("A=&'ab';", "ab", 0);
        takes("A=!'ab'.;", "ac", 1);
        takes("A=!'ab'.;", "ab", -1);
        takes("A=!'ab';", "", 0);
        takes("A=&.;", "", -1);
        takes("A=..!.;", "ab", 2);
        takes("A=..!.;", "abc", -1);
        takes("A=!(!'a').;", "a", 1);
        takes("A=&();", "", 0);
        takes("A=!();", "", -1);
    }

    @Says("(&e* is & of e*)")
    private static void promise10_theEndIsNearerThanTheSign() {
        takes("A=&'a'*.;", "aab", 1);
        takes("A=&'a'*'b';", "aab", -1);
        takes("A=!'a'+.;", "b", 1);
        takes("A=!'a'?.;", "b", -1);
    }

    @Says("a name what its rule takes; a capture what e takes")
    private static void promise10_namesAndCaptures() {
        takes("A=BB;B=;", "a", 0);
        takes("A=BBBB;B=C?;C='c'!.;", "cc", 0);
        takes("A='x'A?/B;B=C;C=D;D=E;E=F;F=G;G=H;H='h';", "xxh", 3);
        takes("A=.B;B=C.;C='b';", "abc", 3);
        takes("A=.B;B=C.;C='b';", "acc", -1);
        takes("A='('A')'/'x';", "((x))", 5);
        takes("A='('A')'/'x';", "((x)", -1);
        takes("A={'a'{'b'}};", "ab", 2, "0-2<-1 1-2<0");
        takes("A={'a'{'b'}};", "ac", -1);
        takes("A=&(B!'b')'a'*C;B='a'B?'b';C='b'C?'c';", "aabbcc", 6);
        takes("A=&(B!'b')'a'*C;B='a'B?'b';C='b'C?'c';", "aabbc", -1);
    }

    @Says("Matches the first rule at the beginning of the subject")
    private static void promise10_theFirstRuleOfTheText() {
        takes("B='b';A='a';", "b", 1);
        takes("B='b';A='a';", "a", -1);
        takes("Z=A.;A='a';", "ab", 2);
    }

    @Says("how many characters it takes; -1 if it fails, -2 if the machine gives up")
    private static void promise10_from0To10() {
        GrammarMachine x = compiled("A=.*;");
        for (int size = 0; size <= 10; size++) {
            due("machine", x.match(true), size);
            due("memory", x.match(false), size);
            x.feed('a');
        }
    }

    /** D makes one try, and is come to ten times ten times ten times. */
    private static GrammarMachine thousandTriesAnd(String more, String subject) {
        GrammarMachine x = compiled("A=BBBBBBBBBB" + more + ";B=CCCCCCCCCC;C=DDDDDDDDDD;D=!'a';");
        feedAll(x, subject);
        return x;
    }

    @Says("Where it would make a try more than 1000 it gives up.")
    private static void promise10_thousandTriesAreNotTooMany() {
        GrammarMachine x = thousandTriesAnd("", "b");
        due("match", x.match(true), 0);
        due("work", x.work(), 1000);
        GrammarMachine y = thousandTriesAnd(".", "b");
        due("match", y.match(true), 1);
        due("work", y.work(), 1000);
        GrammarMachine z = thousandTriesAnd(".", "");
        due("match that fails", z.match(true), -1);
        due("its work", z.work(), 1000);
    }

    @Says("Where it would make a try more than 1000 it gives up.")
    private static void promise10_oneMoreIsTooMany() {
        for (String more : new String[] {"!.", "&.", ".?", ".*", "/", "/."}) {
            GrammarMachine x = thousandTriesAnd(more, "b");
            due("match with " + more, x.match(true), -2);
            due("work with " + more, x.work(), 1000);
            due("nodes with " + more, x.nodes(), 0);
        }
        due("the second time of e+", thousandTriesAnd(".+", "bb").match(true), -2);
    }

    @Says("where e is not empty and the next character of the subject is not in its head (its end is in "
            + "none), it makes no try")
    private static void promise10_whatALookSparesIsNotOneMore() {
        due("e? at the end", thousandTriesAnd(".?", "").match(true), 0);
        due("e* at the end", thousandTriesAnd(".*", "").match(true), 0);
        due("e? that does not fit", thousandTriesAnd("'a'?", "b").match(true), 0);
        due("e* that does not fit", thousandTriesAnd("'a'*", "b").match(true), 0);
        due("e+ after its first time", thousandTriesAnd(".+", "b").match(true), 1);
        GrammarMachine x = compiled("A='a'/BBBBBBBBBB;B=CCCCCCCCCC;C=DDDDDDDDDD;D=!'a';");
        feedAll(x, "b");
        due("e1 that does not fit", x.match(true), 0);
        due("tries without it", x.work(), 1000);
    }

    @Says("-2 if the machine gives up (no tree then; it took 1000 tries). That is the match then.")
    private static void promise10_theMachineGivesUpAndTheOtherDoesNot() {
        GrammarMachine x = compiled("A={'a'}A'b'/{'a'}A'c'/{'a'};");
        feedAll(x, "aaaaaaaaaa");
        for (int turn = 0; turn < 2; turn++) {
            due("machine", x.match(true), -2);
            due("it took 1000", x.work(), 1000);
            due("no tree", x.nodes(), 0);
            due("no node", outcome(() -> x.node(0, 0)), INDEX);
            due("memory", x.match(false), 1);
            due("its evaluations", x.work(), 11);
            due("its tree", tree(x), "0-1<-1");
        }
    }

    @Says("-2 if the machine gives up (no tree then; it took 1000 tries). That is the match then.")
    private static void promise10_nothingIsLeftAfterGivingUp() {
        GrammarMachine x = compiled("A='a'A'b'/'a'A'c'/'a';");
        for (int turn = 0; turn < 3; turn++) {
            feedAll(x, "aaaaaaaaaa");
            due("gives up", x.match(true), -2);
            feedAll(x, "baaaaaaaaa");
            due("a failure is one", x.match(true), -1);
            due("without a try", x.work(), 0);
            feedAll(x, "ab");
            due("a match is one", x.match(true), 1);
            due("with its tries", x.work(), 2);
        }
    }

    @Says("Where it would make a try more than 1000 it gives up.")
    private static void promise10_theTriesOfOneMatchAreNotCountedInTheNext() {
        GrammarMachine x = thousandTriesAnd("", "b");
        for (int turn = 0; turn < 3; turn++) {
            due("match", x.match(true), 0);
            due("work", x.work(), 1000);
        }
    }

    @Says("IllegalStateException if there is no grammar.")
    private static void promise10_noGrammar() {
        GrammarMachine x = typed("A=.;");
        feedAll(x, "a");
        due("machine", outcome(() -> x.match(true)), STATE);
        due("memory", outcome(() -> x.match(false)), STATE);
        noMatch(x);
        due("compile", x.compile(), 1);
        due("machine", outcome(() -> x.match(true)), 1);
    }

    @Says("That is the match then.")
    private static void promise10_theLatestMatchIsTheMatch() {
        GrammarMachine x = compiled("A={'a'}*B;B='b';");
        feedAll(x, "aab");
        x.match(true);
        due("tries", x.work(), 2);
        x.match(false);
        due("evaluations", x.work(), 2);
        due("nodes", x.nodes(), 2);
        feedAll(x, "aaa");
        due("fails", x.match(true), -1);
        due("tries", x.work(), 3);
        due("no nodes", x.nodes(), 0);
    }

    @Says("both find the same, with the same tree of captures")
    private static void promise10_asDeepAndAsWideAsATextHasRoomFor() {
        GrammarMachine x = compiled("A={{{{{{B}}}}}};B={{{{{{C}}}}}};C={{{{{.A?}}}}};");
        feedAll(x, "0123456789");
        for (int turn = 0; turn < 10; turn++) {
            due("deep match", x.match(turn % 2 == 0), 10);
            due("deep nodes", x.nodes(), 170);
            due("deep work", x.work(), turn % 2 == 0 ? 9 : 33);
            due("deepest begin", x.node(169, 0), 9);
            due("deepest end", x.node(169, 1), 10);
            due("deepest outer", x.node(169, 2), 168);
        }
        takes("A=" + ".+".repeat(23) + ";", "0123456789", -1);
        takes("A=" + "/".repeat(46) + ".;", "0123456789", 0);
        takes("A=" + "'x'/".repeat(11) + ".;", "0123456789", 1);
        takes("A=" + ".?".repeat(23) + ";", "0123456789", 10);
        takes("A=&(&(&(&(&(&('ab')?)?)?)?)?)?.;", "ab", 1);
        takes("A=&(&(&(&(&(&('ab')?)?)?)?)?)?.;", "b", 1);
        takes("A=&(!(!(&(&(&(.A/!.))))))B;B=C;C=D;D=.?E;E=.*;", "0123456789", 10);
    }

    // ---- Promise 11: work, THE MACHINE and THE MEMORY --------------------------------------

    @Says("-1 if there is none")
    private static void promise11_minusOneWithoutAMatch() {
        GrammarMachine x = compiled("A=.;");
        due("before the first match", x.work(), -1);
        due("match that fails", x.match(true), -1);
        due("after it", x.work(), 0);
        x.feed('a');
        due("after feed", x.work(), -1);
        x.match(false);
        due("after match", x.work(), 1);
        x.clear();
        due("after clear", x.work(), -1);
        x.match(false);
        x.compile();
        due("after compile", x.work(), -1);
    }

    @Says("THE MACHINE makes a TRY each time when it begins e1 in e1/e2")
    private static void promise11_triesOfChoices() {
        tries("A='a'/'b';", "a", 1);
        tries("A='ax'/'ay';", "ay", 1);
        tries("A='ax'/'ay'/'az';", "az", 2);
        tries("A='ax'/'ay'/'az';", "ax", 1);
        tries("A=('ax'/'ay')/'az';", "az", 2);
        tries("A='a'/'a'/'a'/'a';", "a", 1);
        tries("A='a'A/'b';", "aab", 2);
    }

    @Says("(e1/e2/e3 is e1 with one e2/e3)")
    private static void promise11_theLastOfAChoiceIsBegunWithoutATry() {
        tries("A='b'/'a';", "a", 0);
        tries("A='a'/'b'/'c';", "c", 0);
        tries("A='a'/'b'/'c';", "b", 1);
        tries("A='a'/'b'/'c';", "d", 0);
        tries("A='ax'/'b'/'ac';", "ac", 1);
    }

    @Says("e in e?, in e* each time")
    private static void promise11_triesOfOptionsAndStars() {
        tries("A='a'?;", "aa", 1);
        tries("A='ab'?;", "ac", 1);
        tries("A='a'*;", "aab", 2);
        tries("A='a'*;", "aa", 2);
        tries("A='ab'*;", "abac", 2);
        tries("A=.*;", "0123456789", 10);
        tries("A=.?.?.?;", "ab", 2);
    }

    @Says("in e+ each time but the first (which is begun without a try or a look, as e2 of e1/e2 is)")
    private static void promise11_triesOfPlus() {
        tries("A='a'+;", "a", 0);
        tries("A='a'+;", "b", 0);
        tries("A='a'+;", "", 0);
        tries("A='a'+;", "aa", 1);
        tries("A='a'+;", "aaab", 2);
        tries("A='ab'+;", "abac", 1);
        tries("A=('a'+)+;", "aaa", 2);
        tries("A=('a'+'b')+;", "aabab", 2);
        tries("A=(&'x''y')+;", "z", 1);
        tries("A=('a'/&'x''y')+;", "z", 1);
    }

    @Says("and in &e and !e")
    private static void promise11_triesOfLooksAhead() {
        tries("A=&'a';", "a", 1);
        tries("A=&'a';", "b", 1);
        tries("A=&.;", "", 1);
        tries("A=!'a';", "a", 1);
        tries("A=!'a';", "b", 1);
        tries("A=!.;", "", 1);
        tries("A=!(!'a');", "a", 2);
        tries("A=&'a'*;", "aab", 3);
        tries("A=&'a'?;", "b", 1);
    }

    @Says("But for these / ? * +")
    private static void promise11_noLookSparesTheTryOfLooksAhead() {
        tries("A=&'a'/.;", "b", 2);
        tries("A=!'a'.;", "b", 1);
        tries("A=&.;", "", 1);
        tries("A=!.;", "", 1);
        tries("A=.&'a';", "ab", 1);
        tries("A=.!'a';", "a", 1);
    }

    @Says("where e is not empty and the next character of the subject is not in its head (its end is in "
            + "none), it makes no try: e has failed")
    private static void promise11_aLookSparesATry() {
        tries("A='a'?;", "b", 0);
        tries("A='a'?;", "", 0);
        tries("A='a'*;", "b", 0);
        tries("A='a'*;", "", 0);
        tries("A='a'/'b';", "b", 0);
        tries("A='a'/'b';", "", 0);
        tries("A=.?;", "", 0);
        tries("A=B?;B='a'/'b';", "c", 0);
        tries("A=B?;B='a'/'b';", "b", 1);
        tries("A=('a'/)'b'/'c';", "c", 0);
        tries("A=('a'/)'b'/'c';", "b", 1);
    }

    @Says("where e is not empty and the next character of the subject is not in its head (its end is in "
            + "none), it makes no try: e has failed")
    private static void promise11_noLookSparesWhatIsEmpty() {
        tries("A=('a'?)?;", "b", 1);
        tries("A=('a'?)?;", "", 1);
        tries("A=/'a';", "b", 1);
        tries("A='a'//'b';", "c", 1);
        tries("A='a'*/'b';", "", 1);
        tries("A=&'a'/'b';", "b", 2);
        tries("A=(&'x'/'a')/'c';", "c", 3);
        tries("A=(!'x')?;", "x", 2);
    }

    @Says("How many tries (machine) or evaluations the latest match took")
    private static void promise11_triesOfWhatFailsInTheEnd() {
        tries("A='a'*'b';", "aac", 2);
        tries("A='a'A'b'/'a'A'c'/'a';", "aaaa", 30);
        tries("A='a'A'b'/'a'A'c'/'a';", "aaaaaaaa", 510);
        tries("A='a'A'b'/'a'A'c'/'a';", "aaaaaaaaa", 1000);
    }

    @Says("the first time is an EVALUATION (that of the first rule at place 0 is one")
    private static void promise11_theFirstRuleAtPlace0() {
        evaluations("A=;", "", 1);
        evaluations("A='a';", "a", 1);
        evaluations("A='a';", "b", 1);
        evaluations("A='a'*('b'/.?)&.;", "aab", 1);
        evaluations("A=.;B=.;", "a", 1);
    }

    @Says("each rule's expression is matched at each place at most once")
    private static void promise11_eachRuleAtEachPlaceOnce() {
        evaluations("A=B'x'/B'y'/B;B='b';", "b", 2);
        evaluations("A=&B&B!(B'x')B;B='b';", "b", 2);
        evaluations("A='a'A'b'/'a'A'c'/'a';", "aaaaaaaaa", 10);
        evaluations("A=BB;B=;", "", 2);
        evaluations("A=BB;B='b';", "bb", 3);
        evaluations("A=BBBBBBBBBB;B=CCCCCCCCCC;C=DDDDDDDDDD;D=!'a';", "b", 4);
        evaluations("A=BC;B='b'C?;C='c';", "bcc", 4);
    }

    @Says("so is one that fails, or that & or ! look at)")
    private static void promise11_whatFailsAndWhatIsLookedAt() {
        evaluations("A=B/C;B='b';C='c';", "c", 3);
        evaluations("A=B?;B='b';", "c", 2);
        evaluations("A=B?;B='b';", "", 2);
        evaluations("A=B*;B='b';", "bb", 4);
        evaluations("A=B+;B='b';", "bb", 4);
        evaluations("A=&BB;B='b';", "b", 2);
        evaluations("A=!B.;B='b';", "c", 2);
        evaluations("A=!B/B;B='b';", "b", 2);
        evaluations("A=.C/.B/.C;B='b';C='c';", "xd", 3);
        evaluations("A=B'x'/B'y'/.;B=C'z';C=.;", "c", 3);
    }

    @Says("each rule's expression is matched at each place at most once")
    private static void promise11_allRulesAtAllPlaces() {
        String text = "A=B.A/B;B=C;C=D;D=E;E=F;F=G;G=H;H=;";
        takes(text, "0123456789", 10);
        evaluations(text, "0123456789", 88);
        tries(text, "0123456789", 10);
        evaluations(text, "", 8);
        evaluations("A=.A/B;B=;", "0123456789", 12);
    }

    @Says("THE MEMORY of the other matcher: each rule's expression is matched at each place at most once")
    private static void promise11_nothingIsRememberedFromAnotherMatch() {
        GrammarMachine x = compiled("A={B}'x'/{B};B='b'/.;");
        feedAll(x, "b");
        for (int turn = 0; turn < 3; turn++) {
            due("match", x.match(false), 1);
            due("evaluations", x.work(), 2);
        }
        feedAll(x, "cx");
        due("another subject", x.match(false), 2);
        due("its evaluations", x.work(), 2);
        retype(x, "A=B'y'/B.;B='c';");
        due("compile", x.compile(), 2);
        due("another grammar", x.match(false), 2);
        due("its evaluations", x.work(), 2);
    }

    @Says("each rule's expression is matched at each place at most once")
    private static void promise11_theMemoryDoesNotBecomeFull() {
        GrammarMachine x = compiled("A=B'x'/B;B={{{{{{.}}}}}}*;");
        feedAll(x, "0123456789");
        for (int turn = 0; turn < 150; turn++) {
            due("match", x.match(false), 10);
            due("evaluations", x.work(), 2);
            due("nodes", x.nodes(), 60);
        }
    }

    // ---- Promise 12: nodes, and THE TREE ---------------------------------------------------

    @Says("0 if it failed or gave up, -1 if there is no match")
    private static void promise12_withoutATree() {
        GrammarMachine x = compiled("A={.}{'b'};");
        due("no match yet", x.nodes(), -1);
        feedAll(x, "ac");
        due("fails", x.match(true), -1);
        due("failed", x.nodes(), 0);
        due("fails", x.match(false), -1);
        due("failed", x.nodes(), 0);
        feedAll(x, "ab");
        due("no match after feed", x.nodes(), -1);
        due("matches", x.match(true), 2);
        due("nodes", x.nodes(), 2);
        x.clear();
        due("no match after clear", x.nodes(), -1);
        x.match(true);
        x.compile();
        due("no match after compile", x.nodes(), -1);
    }

    @Says("0 if it failed or gave up, -1 if there is no match")
    private static void promise12_afterGivingUp() {
        GrammarMachine x = compiled("A={'a'}A'b'/{'a'}A'c'/{'a'};");
        feedAll(x, "aaaaaaaaaa");
        due("gives up", x.match(true), -2);
        due("gave up", x.nodes(), 0);
    }

    @Says("How many nodes its tree has")
    private static void promise12_aMatchWithoutCapturesHasNone() {
        takes("A=.*;", "abc", 3, "");
        takes("A=;", "", 0, "");
        GrammarMachine x = compiled("A={.}*;");
        due("match", x.match(true), 0);
        due("nodes", x.nodes(), 0);
    }

    @Says("THE TREE has a NODE for each capture that was come to its end in what matched in the end")
    private static void promise12_oneForEachCaptureThatMatched() {
        takes("A={.};", "a", 1, "0-1<-1");
        takes("A={.}*;", "abc", 3, "0-1<-1 1-2<-1 2-3<-1");
        takes("A={.}+;", "abc", 3, "0-1<-1 1-2<-1 2-3<-1");
        takes("A={.}?;", "abc", 1, "0-1<-1");
        takes("A={.+};", "0123456789", 10, "0-10<-1");
        takes("A=.{.}.;", "abc", 3, "1-2<-1");
        takes("A=BB;B={.};", "ab", 2, "0-1<-1 1-2<-1");
    }

    @Says("none of what failed")
    private static void promise12_noneOfWhatFailed() {
        takes("A={.{.}'x'}/{.}.;", "aby", 2, "0-1<-1");
        takes("A={.}'x'/..;", "ab", 2, "");
        takes("A=({.}'x')?{..};", "ab", 2, "0-2<-1");
        takes("A=({.}'x')*{..};", "axab", 4, "0-1<-1 2-4<-1");
        takes("A=({.}'x')+{..};", "axab", 4, "0-1<-1 2-4<-1");
        takes("A={.{.}{'x'}}?{.};", "abc", 1, "0-1<-1");
        takes("A=B/{.};B={.}{.}'x';", "ab", 1, "0-1<-1");
        takes("A={.}({.}'x'/{.}'y'/{.});", "ab", 2, "0-1<-1 1-2<-1");
    }

    @Says("or of what & and ! looked at")
    private static void promise12_noneOfWhatWasLookedAt() {
        takes("A=&{.}.{.};", "ab", 2, "1-2<-1");
        takes("A=&{.}.;", "a", 1, "");
        takes("A=!{'a'}.{.};", "bb", 2, "1-2<-1");
        takes("A=!(!{.}).{.};", "bb", 2, "1-2<-1");
        takes("A=&(&{.}).{.};", "bb", 2, "1-2<-1");
        takes("A={.&{.}}{.};", "ab", 2, "0-1<-1 1-2<-1");
        takes("A=!({.}'x')..;", "ab", 2, "");
        takes("A=!({.}'b')./{.};", "ab", 1, "0-1<-1");
    }

    @Says("both find the same, with the same tree of captures")
    private static void promise12_whatIsRememberedHasItsNodes() {
        takes("A=&B{B};B={.}{.};", "ab", 2, "0-2<-1 0-1<0 1-2<0");
        takes("A=!(B'x'){B};B={.}{.};", "ab", 2, "0-2<-1 0-1<0 1-2<0");
        takes("A=B'x'/{B}/.;B={.C};C={.};", "ab", 2, "0-2<-1 0-2<0 1-2<1");
        takes("A=B'x'/B'y'/C;C={B};B={.{.}};", "ab", 2, "0-2<-1 0-2<0 1-2<1");
        takes("A={B}{C};B='b';C={B};", "bb", 2, "0-1<-1 1-2<-1 1-2<1");
        takes("A=.C'x'/{.}C;C={.};", "ab", 2, "0-1<-1 1-2<-1");
        takes("A=BC'x'/BC;B={.};C={.};", "ab", 2, "0-1<-1 1-2<-1");
        takes("A=&(BC)'x'/B.{.};B={.};C={.};", "abc", 3, "0-1<-1 2-3<-1");
    }

    // ---- Promise 13: node ------------------------------------------------------------------

    @Says("Of a node: where it begins (what = 0), ends (1), the node in which it is (2; -1 if in none).")
    private static void promise13_beginEndAndOuter() {
        GrammarMachine x = compiled("A=.{.{.}.}{.};");
        feedAll(x, "abcde");
        due("match", x.match(true), 5);
        int[][] want = {{1, 4, -1}, {2, 3, 0}, {4, 5, -1}};
        for (int i = 0; i < 3; i++) {
            for (int what = 0; what < 3; what++) {
                due("node " + i + " " + what, x.node(i, what), want[i][what]);
            }
        }
    }

    @Says("Nodes are numbered in the order of their beginnings (an outer one before what is in it).")
    private static void promise13_theOrderOfTheNodes() {
        takes("A={{.}{.}}{.};", "abc", 3, "0-2<-1 0-1<0 1-2<0 2-3<-1");
        takes("A={{{.}}};", "a", 1, "0-1<-1 0-1<0 0-1<1");
        takes("A={{.}.};", "ab", 2, "0-2<-1 0-1<0");
        takes("A={.{.}};", "ab", 2, "0-2<-1 1-2<0");
        takes("A={'('A*')'};", "(()())", 6, "0-6<-1 1-3<0 3-5<0");
        takes("A={'('A*')'};", "((()))", 6, "0-6<-1 1-5<0 2-4<1");
        takes("A={{{{{{'ab'}+}+}+}+}+}+;", "abab", 4, "0-4<-1 0-4<0 0-4<1 0-4<2 0-4<3 0-2<4 2-4<4");
    }

    @Says("the node in which it is (2; -1 if in none)")
    private static void promise13_theOuterIsTheNearest() {
        takes("A={{.}{{.}{.}}}{{.}};", "abcd", 4, "0-3<-1 0-1<0 1-3<0 1-2<2 2-3<2 3-4<-1 3-4<5");
        takes("A={B}B;B={.{.}};", "abcd", 4, "0-2<-1 0-2<0 1-2<1 2-4<-1 3-4<3");
        takes("A={.A?};", "0123456789", 10,
                "0-10<-1 1-10<0 2-10<1 3-10<2 4-10<3 5-10<4 6-10<5 7-10<6 8-10<7 9-10<8");
    }

    @Says("IndexOutOfBoundsException if there is no such node")
    private static void promise13_noSuchNode() {
        GrammarMachine x = compiled("A={.}{.};");
        feedAll(x, "ab");
        due("no match: node", outcome(() -> x.node(0, 0)), INDEX);
        for (int turn = 0; turn < 2; turn++) {
            x.match(turn == 0);
            for (int i : new int[] {Integer.MIN_VALUE, -2, -1, 2, 3, 256, 1 << 16, Integer.MAX_VALUE}) {
                due("node " + i, outcome(() -> x.node(i, 0)), INDEX);
                due("node " + i + ", 2", outcome(() -> x.node(i, 2)), INDEX);
            }
            due("the first one", outcome(() -> x.node(0, 1)), 1);
            due("the last one", outcome(() -> x.node(1, 1)), 2);
        }
    }

    @Says("IndexOutOfBoundsException if there is no such node")
    private static void promise13_noNodeWithoutATree() {
        GrammarMachine x = compiled("A={.}{'b'};");
        feedAll(x, "ab");
        x.match(true);
        feedAll(x, "ac");
        due("no match", outcome(() -> x.node(0, 0)), INDEX);
        x.match(true);
        due("failed", outcome(() -> x.node(0, 0)), INDEX);
        x.match(false);
        due("failed", outcome(() -> x.node(0, 0)), INDEX);
        feedAll(x, "ab");
        x.match(true);
        x.feed('c');
        due("after feed", outcome(() -> x.node(0, 0)), INDEX);
        x.match(true);
        x.compile();
        due("after compile", outcome(() -> x.node(0, 0)), INDEX);
    }

    @Says("if there is, IllegalArgumentException if there is no such what")
    private static void promise13_noSuchWhat() {
        GrammarMachine x = matched();
        for (int what : new int[] {Integer.MIN_VALUE, -2, -1, 3, 4, 256, 1 << 16, Integer.MAX_VALUE}) {
            due("what " + what, outcome(() -> x.node(0, what)), ARGUMENT);
            due("what " + what + " of the last", outcome(() -> x.node(1, what)), ARGUMENT);
            due("what " + what + " of no node", outcome(() -> x.node(2, what)), INDEX);
            due("what " + what + " of node -1", outcome(() -> x.node(-1, what)), INDEX);
        }
        x.clear();
        due("no match, no what", outcome(() -> x.node(0, 3)), INDEX);
        matchAgain(x);
    }

    private static void matchAgain(GrammarMachine x) {
        feedAll(x, "aa");
        due("match", x.match(true), 2);
        matchStays(x);
    }
}
