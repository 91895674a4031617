/** The sentences of the document's promises that name a boundary: each is tried on both sides of it. */
public final class PromiseEdgesTest extends Scene {
    private static final Check CHECK = new Check();

    public static void main(String[] args) {
        newObject();
        stepNumbers();
        stepKinds();
        stepFrom();
        stepTo();
        stepRefusals();
        silentFlag();
        templateCount();
        templateKinds();
        templateTerms();
        templateRefusals();
        patternCount();
        patternKindsAndTerms();
        patternRefusals();
        fileCount();
        fileRefusals();
        tornFlag();
        runAnswers();
        runFirstReason();
        runGivesBack();
        runKeepsSequence();
        failsSteps();
        clearSteps();
        clearLeavesTheRest();
        manyFacts();
        atFacts();
        atRefusals();
        hasAnyNumbers();
        changedFacts();
        changedOrder();
        changedOfTheLatest();
        changedRefusals();
        solutionsOfSteps();
        solutionsOfTheLatest();
        solutionsThatWereFound();
        solutionsThatWorkEnds();
        toldNumbers();
        toldWork();
        CHECK.end("PromiseEdgesTest");
    }

    private static void says(String words) {
        CHECK.says(words);
    }

    private static void due(String what, Object want, Check.Call call) {
        CHECK.due(what, want, call);
    }

    private static void newObject() {
        says("1 The default graph, without facts; no steps; files without rows, none TORN");
        UpdateSteps x = new UpdateSteps();
        due("the default graph alone, no blanks", "0[] 0", () -> store(x));
        due("no first fact", OUT, () -> x.at(0, 0, 0));
        due("no steps", 0, () -> x.told(0));
        due("not even one", OUT, () -> x.solutions(0));
        due("no run", NONE, x::fails);
        due("no changes", OUT, () -> x.changed(0, 0));
        due("none told", 0, () -> x.told(3));
        due("no work", 0, () -> x.told(4));
        for (int i = 0; i <= 3; i++) {
            int file = i;
            due("a first row", 1, () -> x.file(file, 1, 1, 1));
            due("not torn", false, () -> x.torn(file, true));
        }
        UpdateSteps y = new UpdateSteps();
        due("another object is new, too", false, () -> y.torn(0, true));
        due("a run without steps", 0, y::run);
        due("nothing to clear", 0, y::clear);
    }

    private static void stepNumbers() {
        says("2 A step behind the others: its number");
        UpdateSteps x = new UpdateSteps();
        due("the first", 0, () -> x.step(PUT, 0, 0));
        due("the second", 1, () -> x.step(TAKE, 0, 0));
        due("refused", ARGUMENT, () -> x.step(TAKE, 0, 7));
        due("the third", 2, () -> x.step(PUT, 0, 0));
        x.template(0, 1, 1, 1, true);
        x.template(1, 1, 1, 1, false);
        x.template(2, 2, 2, 2, true);
        due("in their order", 1, x::run);
        due("what is there in the end", "2,2,2", () -> facts(x, 0));
    }

    private static void stepKinds() {
        says("2 step: a KIND 0 .. 9");
        UpdateSteps x = new UpdateSteps();
        for (int i = 0; i <= 9; i++) {
            int kind = i;
            due("kind " + kind, kind, () -> x.step(kind, 1, 1));
        }
        for (int kind : new int[] {LOW, -2, -1, 10, 11, FAR}) {
            due("kind " + kind, ARGUMENT, () -> x.step(kind, 1, 1));
        }
    }

    private static void stepFrom() {
        says("2 FROM is 0 .. 6 (a file 0 .. 3 for READ); FROM counts for 2, 6 to 9 alone "
                + "(of others any number may stand there)");
        for (int i = 0; i <= 9; i++) {
            int kind = i;
            boolean counts = kind == CHANGE || kind >= COPY;
            for (int from : new int[] {LOW, -2, -1, 0, 1, 3, 4, 6, 7, FAR}) {
                boolean may = !counts || (from >= 0 && from <= (kind == READ ? 3 : 6));
                UpdateSteps x = new UpdateSteps();
                due("kind " + kind + " from " + from, may ? 0 : ARGUMENT, () -> x.step(kind, from, 1));
                due("then", may ? 1 : 0, () -> x.told(0));
                if (!counts && kind != CLEAR && kind != DROP) {
                    due("such a step is done", 0, x::run);
                }
            }
        }
    }

    private static void stepTo() {
        says("2 TO 0 .. 6 (ALL, NAMED for CLEAR and DROP alone; 1 .. 6 for MAKE)");
        for (int i = 0; i <= 9; i++) {
            int kind = i;
            boolean takes = kind == CLEAR || kind == DROP;
            for (int to : new int[] {LOW, -3, -2, -1, 0, 1, 6, 7, FAR}) {
                boolean may = to <= 6 && to >= (kind == MAKE ? 1 : takes ? -2 : 0);
                UpdateSteps x = new UpdateSteps();
                due("kind " + kind + " to " + to, may ? 0 : ARGUMENT, () -> x.step(kind, 0, to));
            }
        }
    }

    private static void stepRefusals() {
        says("2 IllegalArgumentException; IllegalStateException: there are 12");
        UpdateSteps x = new UpdateSteps();
        for (int i = 0; i < 11; i++) {
            x.step(CHANGE, 0, 0);
        }
        due("eleven, and a wrong one", ARGUMENT, () -> x.step(10, 0, 0));
        due("the twelfth", 11, () -> x.step(CHANGE, 0, 0));
        due("a thirteenth", STATE, () -> x.step(CHANGE, 0, 0));
        due("the kind is looked at first", ARGUMENT, () -> x.step(10, 0, 0));
        due("and FROM", ARGUMENT, () -> x.step(CHANGE, 7, 0));
        due("and TO", ARGUMENT, () -> x.step(CHANGE, 0, 7));
        due("twelve", 12, () -> x.told(0));
        x.clear();
        due("room again", 0, () -> x.step(CHANGE, 0, 0));
    }

    private static void silentFlag() {
        says("3 A step is SILENT, or not: what it was");
        UpdateSteps x = new UpdateSteps();
        due("no step", OUT, () -> x.silent(0, true));
        x.step(MAKE, 0, 1);
        x.step(MAKE, 0, 1);
        due("at first", false, () -> x.silent(1, true));
        due("it was made so", true, () -> x.silent(1, true));
        due("the other is not", false, () -> x.silent(0, false));
        due("the run goes through", 0, x::run);
        due("a run leaves it", true, () -> x.silent(1, false));
        due("no more", false, () -> x.silent(1, false));
        for (int step : new int[] {LOW, -1, 2, 12, FAR}) {
            due("step " + step, OUT, () -> x.silent(step, true));
        }
    }

    private static void templateCount() {
        says("4 A row more of a step's TEMPLATES: how many it has");
        UpdateSteps x = new UpdateSteps();
        x.step(CHANGE, 0, 0);
        x.step(PUT, 0, 0);
        due("the first", 1, () -> x.template(0, 1, 1, 1, true));
        due("the first of another", 1, () -> x.template(1, 1, 1, 1, true));
        due("the second, the other way", 2, () -> x.template(0, 1, 1, 1, false));
        due("a pattern is none", 1, () -> x.pattern(0, 1, 1, 1));
        due("refused", ARGUMENT, () -> x.template(0, 100, 1, 1, true));
        due("the third", 3, () -> x.template(0, 1, 1, 1, true));
        for (int step : new int[] {LOW, -1, 2, 12, FAR}) {
            due("step " + step, OUT, () -> x.template(step, 1, 1, 1, true));
        }
    }

    private static void templateKinds() {
        says("4 IllegalArgumentException: also if the step is none of 0 to 2; it takes away in a PUT, or adds in a TAKE");
        UpdateSteps x = new UpdateSteps();
        for (int i = 0; i <= 9; i++) {
            int kind = i;
            x.step(kind, 0, 1);
            boolean mayAdd = kind == PUT || kind == CHANGE;
            boolean mayTake = kind == TAKE || kind == CHANGE;
            due("adds in kind " + kind, mayAdd ? 1 : ARGUMENT, () -> x.template(kind, 1, 1, 1, true));
            due("takes away in kind " + kind, mayTake ? kind == CHANGE ? 2 : 1 : ARGUMENT,
                    () -> x.template(kind, 1, 1, 1, false));
        }
    }

    private static void templateTerms() {
        says("4 terms are none that may stand there (the property: no new blank)");
        for (int term : new int[] {LOW, -15, -14, -11, -10, -5, -4, -1, 0, 99, 100, FAR}) {
            boolean name = term >= 0 && term <= 99;
            boolean variable = term <= -1 && term >= -4;
            boolean fresh = term <= -11 && term >= -14;
            termMay(PUT, true, term, name || fresh, name);
            termMay(TAKE, false, term, name, name);
            termMay(CHANGE, true, term, name || variable || fresh, name || variable);
            termMay(CHANGE, false, term, name || variable, name || variable);
        }
    }

    private static void termMay(int kind, boolean adds, int term, boolean atEnds, boolean asProperty) {
        String told = "term " + term + " in kind " + kind + (adds ? " that adds" : " that takes away");
        UpdateSteps x = new UpdateSteps();
        x.step(kind, 0, 0);
        due(told + ", property", asProperty ? 1 : ARGUMENT, () -> x.template(0, 1, term, 1, adds));
        x.clear();
        x.step(kind, 0, 0);
        due(told + ", subject", atEnds ? 1 : ARGUMENT, () -> x.template(0, term, 1, 1, adds));
        due(told + ", object", atEnds ? 2 : ARGUMENT, () -> x.template(0, 1, 1, term, adds));
    }

    private static void templateRefusals() {
        says("4 IndexOutOfBoundsException, IllegalArgumentException, IllegalStateException: the first one that it names");
        UpdateSteps x = new UpdateSteps();
        due("no step, no term", OUT, () -> x.template(0, 100, 1, 1, true));
        x.step(PUT, 0, 0);
        for (int i = 0; i < 5; i++) {
            x.template(0, 1, 1, i, true);
        }
        due("five, and a wrong one", ARGUMENT, () -> x.template(0, 1, 1, 100, true));
        due("the sixth", 6, () -> x.template(0, 1, 1, 5, true));
        due("a seventh", STATE, () -> x.template(0, 1, 1, 5, true));
        due("a term before that", ARGUMENT, () -> x.template(0, 1, 1, 100, true));
        due("the way before that", ARGUMENT, () -> x.template(0, 1, 1, 1, false));
        due("the step before that", OUT, () -> x.template(1, 1, 1, 1, true));
    }

    private static void patternCount() {
        says("5 A row more of a step's PATTERN: how many it has");
        UpdateSteps x = new UpdateSteps();
        x.step(CHANGE, 0, 0);
        x.step(CHANGE, 0, 0);
        due("the first", 1, () -> x.pattern(1, 1, 1, 1));
        due("the first of another", 1, () -> x.pattern(0, 1, 1, 1));
        due("a template is none", 1, () -> x.template(1, 1, 1, 1, true));
        due("the same once more", 2, () -> x.pattern(1, 1, 1, 1));
        due("refused", ARGUMENT, () -> x.pattern(1, 100, 1, 1));
        due("the third", 3, () -> x.pattern(1, -1, -1, -1));
        for (int step : new int[] {LOW, -1, 2, 12, FAR}) {
            due("step " + step, OUT, () -> x.pattern(step, 1, 1, 1));
        }
    }

    private static void patternKindsAndTerms() {
        says("5 IllegalArgumentException: also if the step is no CHANGE, or a term is neither a name nor a variable");
        UpdateSteps x = new UpdateSteps();
        for (int i = 0; i <= 9; i++) {
            int kind = i;
            x.step(kind, 0, 1);
            due("kind " + kind, kind == CHANGE ? 1 : ARGUMENT, () -> x.pattern(kind, 1, 1, 1));
        }
        for (int term : new int[] {LOW, -14, -11, -5, -4, -1, 0, 99, 100, FAR}) {
            boolean may = term >= -4 && term <= 99;
            UpdateSteps y = new UpdateSteps();
            y.step(CHANGE, 0, 0);
            due("subject " + term, may ? 1 : ARGUMENT, () -> y.pattern(0, term, 1, 1));
            due("property " + term, may ? 2 : ARGUMENT, () -> y.pattern(0, 1, term, 1));
            due("object " + term, may ? 3 : ARGUMENT, () -> y.pattern(0, 1, 1, term));
        }
    }

    private static void patternRefusals() {
        says("5 IndexOutOfBoundsException, IllegalArgumentException, IllegalStateException: the first one that it names");
        UpdateSteps x = new UpdateSteps();
        due("no step, no term", OUT, () -> x.pattern(0, 100, 1, 1));
        x.step(CHANGE, 0, 0);
        for (int i = 0; i < 3; i++) {
            x.pattern(0, 1, 1, i);
        }
        due("three, and a wrong one", ARGUMENT, () -> x.pattern(0, 1, 1, 100));
        due("the fourth", 4, () -> x.pattern(0, 1, 1, 1));
        due("a fifth", STATE, () -> x.pattern(0, 1, 1, 1));
        due("a term before that", ARGUMENT, () -> x.pattern(0, 1, -5, 1));
        due("the step before that", OUT, () -> x.pattern(1, 1, 1, 1));
    }

    private static void fileCount() {
        says("6 A row more of a file: how many it has");
        UpdateSteps x = new UpdateSteps();
        due("the first", 1, () -> x.file(0, 1, 1, 1));
        due("the same once more", 2, () -> x.file(0, 1, 1, 1));
        due("the first of another", 1, () -> x.file(3, 1, 1, 1));
        due("refused", ARGUMENT, () -> x.file(0, 100, 1, 1));
        x.step(READ, 0, 0);
        x.run();
        x.clear();
        due("reading takes none away", 3, () -> x.file(0, 0, 99, 0));
    }

    private static void fileRefusals() {
        says("6 IndexOutOfBoundsException, IllegalArgumentException, IllegalStateException: the first one that it names");
        UpdateSteps x = new UpdateSteps();
        for (int i = 0; i < 9; i++) {
            x.file(2, 1, 1, i);
        }
        due("nine, and a wrong one", ARGUMENT, () -> x.file(2, 1, 1, 100));
        due("the tenth", 10, () -> x.file(2, 99, 0, 99));
        due("an eleventh", STATE, () -> x.file(2, 1, 1, 1));
        due("a subject before that", ARGUMENT, () -> x.file(2, 100, 1, 1));
        due("a property before that", ARGUMENT, () -> x.file(2, 1, -1, 1));
        due("an object before that", ARGUMENT, () -> x.file(2, 1, 1, 100));
        for (int file : new int[] {LOW, -1, 4, FAR}) {
            due("file " + file + " before that", OUT, () -> x.file(file, 100, 100, 100));
        }
    }

    private static void tornFlag() {
        says("7 A file is TORN, or not: what it was");
        UpdateSteps x = new UpdateSteps();
        for (int i = 0; i <= 3; i++) {
            int file = i;
            due("at first", false, () -> x.torn(file, true));
            due("it was made so", true, () -> x.torn(file, true));
            due("it was so", true, () -> x.torn(file, false));
            due("no more", false, () -> x.torn(file, false));
        }
        x.torn(1, true);
        x.clear();
        due("steps that go leave it", true, () -> x.torn(1, true));
        due("the others are not", false, () -> x.torn(2, false));
        for (int file : new int[] {LOW, -1, 4, FAR}) {
            due("file " + file, OUT, () -> x.torn(file, true));
        }
    }

    private static void runAnswers() {
        says("8 how many CHANGES there were; or -1 less the REASON of the first step that can't be done");
        UpdateSteps x = new UpdateSteps();
        due("without steps", 0, x::run);
        x.step(MAKE, 0, 1);
        due("a graph that is made is no change", 0, x::run);
        due("reason 1", -2, x::run);
        only(x, CLEAR, 0, 2);
        due("reason 2", -3, x::run);
        only(x, READ, 0, 2);
        x.torn(0, true);
        due("reason 3", -4, x::run);
        x.clear();
        fill(x, 1, 1, 101);
        only(x, COPY, 1, 2);
        due("reason 4", -5, x::run);
        only(x, CHANGE, 1, 2);
        x.pattern(0, -1, -2, -3);
        due("reason 5", -6, x::run);
        only(x, DROP, 0, 1);
        due("all facts of a graph", 101, x::run);
        UpdateSteps y = new UpdateSteps();
        fill(y, 1, 1, 120);
        only(y, MOVE, 1, 0);
        due("as many as there may be", 240, y::run);
        only(y, MOVE, 0, 1);
        y.step(MOVE, 1, 0);
        due("there and back", 0, y::run);
    }

    private static void runFirstReason() {
        says("8 -1 less the REASON of the first step that can't be done");
        UpdateSteps x = new UpdateSteps();
        x.torn(0, true);
        x.step(PUT, 0, 0);
        x.step(READ, 0, 1);
        x.step(MAKE, 0, 3);
        x.step(MAKE, 0, 3);
        x.step(CLEAR, 0, 5);
        due("the torn file", -4, x::run);
        due("its step", 1, x::fails);
        x.torn(0, false);
        due("the graph that is there", -2, x::run);
        due("its step", 3, x::fails);
        x.silent(3, true);
        due("the graph that is not there", -3, x::run);
        due("its step", 4, x::fails);
    }

    private static void runGivesBack() {
        says("8 then all is as it was before, blanks, too");
        int[][] ways = {{PUT, 0, 0}, {PUT, 0, 5}, {TAKE, 0, 2}, {CHANGE, 2, 0}, {CHANGE, 2, 6}, {CLEAR, 0, 0},
            {CLEAR, 0, ALL}, {MAKE, 0, 1}, {DROP, 0, 4}, {DROP, 0, ALL}, {DROP, 0, NAMED}, {COPY, 2, 0}, {COPY, 0, 3},
            {MOVE, 0, 2}, {MOVE, 2, 3}, {ADD, 0, 2}, {ADD, 4, 3}, {READ, 0, 0}, {READ, 0, 6}};
        for (int[] way : ways) {
            UpdateSteps x = new UpdateSteps();
            x.file(0, 9, 9, 9);
            put(x, 2, 2, 2, 2);
            put(x, 0, 1, 1, -11);
            only(x, MAKE, 0, 4);
            x.run();
            only(x, way[0], way[1], way[2]);
            if (way[0] <= CHANGE) {
                x.template(0, way[0] == TAKE ? 2 : -11, 2, way[0] == TAKE ? 2 : -12, way[0] != TAKE);
            }
            x.step(MAKE, 0, 1);
            x.step(MAKE, 0, 1);
            String told = "behind kind " + way[0] + " from " + way[1] + " to " + way[2];
            due("it ends " + told, -2, x::run);
            due("as it was " + told, "0[1,1,100] 2[2,2,2] 4[] 1", () -> store(x));
            due("where it ended", way[0] == MAKE ? 1 : 2, x::fails);
            put(x, 0, 1, 1, -11);
            due("the next blank " + told, "1,1,100 1,1,101", () -> facts(x, 0));
        }
    }

    private static void runKeepsSequence() {
        says("8 (The sequence stays.)");
        UpdateSteps x = new UpdateSteps();
        x.step(CHANGE, 0, 0);
        x.pattern(0, -1, 1, -2);
        x.template(0, -2, 1, -11, true);
        x.step(PUT, 0, 0);
        x.template(1, 1, 1, 1, true);
        x.step(MAKE, 0, 2);
        x.silent(2, true);
        due("a run", 1, x::run);
        due("another", 1, x::run);
        due("another", 2, x::run);
        due("steps", 3, () -> x.told(0));
        due("silent still", true, () -> x.silent(2, false));
        due("one that ends", -2, x::run);
        due("steps stay then, too", 3, () -> x.told(0));
        due("with their patterns", 2, () -> x.pattern(0, -1, 1, -2));
        due("and templates", 2, () -> x.template(1, 1, 1, 1, true));
    }

    private static void failsSteps() {
        says("9 The step at which the latest run() ended; NONE if it went through (or there was none)");
        UpdateSteps x = new UpdateSteps();
        due("no run", NONE, x::fails);
        for (int i = 0; i < 12; i++) {
            x.step(CLEAR, 0, i == 0 || i == 11 ? 1 : 0);
        }
        due("steps alone are no run", NONE, x::fails);
        x.run();
        due("the first step", 0, x::fails);
        x.silent(0, true);
        x.run();
        due("the last step", 11, x::fails);
        due("a question leaves it", 11, x::fails);
        x.silent(11, true);
        due("it is that of the latest run", 11, x::fails);
        x.run();
        due("through", NONE, x::fails);
        x.clear();
        x.run();
        due("a run without steps goes through", NONE, x::fails);
    }

    private static void clearSteps() {
        says("10 All steps go: how many there were");
        UpdateSteps x = new UpdateSteps();
        due("none", 0, x::clear);
        x.step(PUT, 0, 0);
        x.template(0, 1, 1, 1, true);
        due("one", 1, x::clear);
        due("none then", 0, x::clear);
        due("nothing is done", 0, x::run);
        for (int i = 0; i < 12; i++) {
            x.step(CHANGE, 0, 0);
            x.silent(i, true);
            x.pattern(i, 1, 1, 1);
            x.template(i, 1, 1, 1, false);
        }
        due("twelve", 12, x::clear);
        due("none is told", 0, () -> x.told(0));
        due("not the first", OUT, () -> x.pattern(0, 1, 1, 1));
        due("not the last", OUT, () -> x.template(11, 1, 1, 1, true));
        x.step(CHANGE, 0, 0);
        due("a new one has no pattern", 1, () -> x.pattern(0, 1, 1, 1));
        due("nor templates", 1, () -> x.template(0, 1, 1, 1, true));
        due("nor is it silent", false, () -> x.silent(0, true));
    }

    private static void clearLeavesTheRest() {
        says("10 (What the latest run() did is told still, but for solutions(), which are of steps that there are.)");
        UpdateSteps x = new UpdateSteps();
        x.step(PUT, 0, 1);
        x.template(0, -11, 1, 1, true);
        x.step(CHANGE, 1, 1);
        x.pattern(1, -1, 1, 1);
        x.run();
        x.clear();
        due("work", 1, () -> x.told(4));
        due("changes", "+1,100,1,1", () -> changes(x));
        due("the store", "0[] 1[100,1,1] 1", () -> store(x));
        due("no solutions", OUT, () -> x.solutions(1));
        x.step(PUT, 0, 1);
        x.step(CHANGE, 1, 1);
        due("a step that came since", NONE, () -> x.solutions(1));
        x.step(MAKE, 0, 1);
        due("one that can't be done", -2, x::run);
        x.clear();
        due("where it ended", 2, x::fails);
        due("changes of the one that went through", "+1,100,1,1", () -> changes(x));
        due("no work", 0, () -> x.told(4));
    }

    private static void manyFacts() {
        says("11 How many facts a graph 0 .. 6 has; NONE if it is not there");
        UpdateSteps x = new UpdateSteps();
        due("none in the default one", 0, () -> x.many(0));
        due("6 is not there", NONE, () -> x.many(6));
        only(x, MAKE, 0, 6);
        x.run();
        due("6 has none", 0, () -> x.many(6));
        fill(x, 6, 1, 120);
        due("as many as there may be", 120, () -> x.many(6));
        due("another is not there", NONE, () -> x.many(5));
        only(x, DROP, 0, 6);
        x.run();
        due("6 is not there again", NONE, () -> x.many(6));
        for (int graph : new int[] {LOW, -2, -1, 7, FAR}) {
            due("graph " + graph, OUT, () -> x.many(graph));
        }
    }

    private static void atFacts() {
        says("12 Of a graph's fact i (by subject, property, object): which of these (what 0 .. 2)");
        UpdateSteps x = new UpdateSteps();
        int[][] rows = {{99, 0, 0}, {0, 99, 0}, {0, 0, 99}, {1, 0, 0}, {0, 1, 0}, {0, 0, 1}, {0, 0, 0}, {99, 99, 99}};
        for (int[] row : rows) {
            put(x, 3, row[0], row[1], row[2]);
        }
        put(x, 3, -11, 0, -12);
        put(x, 3, 99, 99, -11);
        due("in their order", "0,0,0 0,0,1 0,0,99 0,1,0 0,99,0 1,0,0 99,0,0 99,99,99 99,99,102 100,0,101",
                () -> facts(x, 3));
    }

    private static void atRefusals() {
        says("12 IndexOutOfBoundsException, IllegalArgumentException");
        UpdateSteps x = new UpdateSteps();
        due("a graph without facts", OUT, () -> x.at(0, 0, 0));
        due("a graph that is not there", OUT, () -> x.at(2, 0, 0));
        put(x, 2, 4, 5, 6);
        put(x, 2, 7, 8, 9);
        due("the first", 4, () -> x.at(2, 0, 0));
        due("the last", 9, () -> x.at(2, 1, 2));
        for (int i : new int[] {LOW, -1, 2, FAR}) {
            due("fact " + i, OUT, () -> x.at(2, i, 0));
            due("fact " + i + " before what", OUT, () -> x.at(2, i, 3));
        }
        for (int what : new int[] {LOW, -1, 3, FAR}) {
            due("what " + what, ARGUMENT, () -> x.at(2, 0, what));
        }
        for (int graph : new int[] {LOW, -1, 7, FAR}) {
            due("graph " + graph + " before what", OUT, () -> x.at(graph, 0, 3));
        }
        only(x, CLEAR, 0, 2);
        x.run();
        due("facts that went", OUT, () -> x.at(2, 0, 0));
    }

    private static void hasAnyNumbers() {
        says("13 Whether a graph 0 .. 6 has a fact (any numbers)");
        UpdateSteps x = new UpdateSteps();
        put(x, 6, 0, 0, 0);
        put(x, 6, 99, 99, 99);
        put(x, 6, -11, 5, -12);
        put(x, 6, 1, 0, 0);
        put(x, 6, 0, 1, 0);
        due("the least", true, () -> x.has(6, 0, 0, 0));
        due("the greatest names", true, () -> x.has(6, 99, 99, 99));
        due("with blanks", true, () -> x.has(6, 100, 5, 101));
        due("another way round", false, () -> x.has(6, 101, 5, 100));
        due("in another graph", false, () -> x.has(0, 0, 0, 0));
        due("in one that is not there", false, () -> x.has(1, 0, 0, 0));
        for (int odd : new int[] {LOW, -65536, -256, -100, -14, -11, -4, -1, 100, 159, 160, 256, 65536, 1 << 24, FAR}) {
            due("subject " + odd, false, () -> x.has(6, odd, 0, 0));
            due("property " + odd, false, () -> x.has(6, 0, odd, 0));
            due("object " + odd, false, () -> x.has(6, 0, 0, odd));
            due("all " + odd, false, () -> x.has(6, odd, odd, odd));
        }
        for (int graph : new int[] {LOW, -1, 7, FAR}) {
            due("graph " + graph, OUT, () -> x.has(graph, 0, 0, 0));
            due("graph " + graph + " and odd numbers", OUT, () -> x.has(graph, LOW, FAR, -1));
        }
    }

    private static void changedFacts() {
        says("14 facts that are in a graph behind it and were not before, or the other way, each once");
        UpdateSteps x = new UpdateSteps();
        put(x, 1, 1, 1, 1);
        put(x, 1, 2, 2, 2);
        only(x, TAKE, 0, 1);
        x.template(0, 1, 1, 1, false);
        x.step(PUT, 0, 1);
        x.template(1, 1, 1, 1, true);
        x.step(PUT, 0, 2);
        x.template(2, 3, 3, 3, true);
        x.step(DROP, 0, 2);
        due("went and came, came and went", 0, x::run);
        due("no change", OUT, () -> x.changed(0, 0));
        only(x, PUT, 0, 1);
        x.template(0, 4, 4, 4, true);
        x.step(TAKE, 0, 1);
        x.template(1, 4, 4, 4, false);
        x.template(1, 2, 2, 2, false);
        x.step(PUT, 0, 1);
        x.template(2, 4, 4, 4, true);
        x.step(TAKE, 0, 1);
        x.template(3, 2, 2, 2, false);
        due("several times", 2, x::run);
        due("each once", "-1,2,2,2 +1,4,4,4", () -> changes(x));
        only(x, MOVE, 1, 3);
        x.step(MAKE, 0, 1);
        due("from graph to graph", 4, x::run);
        due("in both", "-1,1,1,1 -1,4,4,4 +3,1,1,1 +3,4,4,4", () -> changes(x));
        only(x, DROP, 0, 1);
        x.step(MAKE, 0, 5);
        due("graphs that come and go are no changes", 0, x::run);
    }

    private static void changedOrder() {
        says("14 by graphs, of one those that came and those that went together by subject, property, object");
        UpdateSteps x = new UpdateSteps();
        put(x, 6, 1, 1, 2);
        put(x, 6, 2, 1, 1);
        put(x, 0, 9, 9, 9);
        only(x, PUT, 0, 6);
        x.template(0, 1, 1, 1, true);
        x.template(0, 1, 1, 3, true);
        x.template(0, 1, 2, 0, true);
        x.template(0, -11, 0, 0, true);
        x.step(TAKE, 0, 6);
        x.template(1, 2, 1, 1, false);
        x.template(1, 1, 1, 2, false);
        x.step(DROP, 0, 0);
        x.step(PUT, 0, 3);
        x.template(3, 0, 0, 0, true);
        due("eight", 8, x::run);
        due("in their order",
                "-0,9,9,9 +3,0,0,0 +6,1,1,1 -6,1,1,2 +6,1,1,3 +6,1,2,0 -6,2,1,1 +6,100,0,0", () -> changes(x));
    }

    private static void changedOfTheLatest() {
        says("14 CHANGES of the latest run() that went through");
        UpdateSteps x = new UpdateSteps();
        due("no run", OUT, () -> x.changed(0, 0));
        x.step(CLEAR, 0, 1);
        x.run();
        due("none went through", OUT, () -> x.changed(0, 0));
        put(x, 1, 1, 1, 1);
        only(x, PUT, 0, 1);
        x.template(0, 2, 2, 2, true);
        x.step(CLEAR, 0, 2);
        x.run();
        due("one that ended tells none", "+1,1,1,1", () -> changes(x));
        x.silent(1, true);
        x.run();
        due("one that went through", "+1,2,2,2", () -> changes(x));
        x.run();
        due("one without changes", "", () -> changes(x));
        due("has no first one", OUT, () -> x.changed(0, 0));
    }

    private static void changedRefusals() {
        says("14 Of change i: its graph (what = 0), subject (1), property (2), object (3), whether it came (4: 1, 0)");
        UpdateSteps x = new UpdateSteps();
        put(x, 5, 1, 2, -11);
        only(x, MOVE, 5, 6);
        due("two", 2, x::run);
        int[] first = {5, 1, 2, 100, 0};
        int[] second = {6, 1, 2, 100, 1};
        for (int i = 0; i <= 4; i++) {
            int what = i;
            due("what " + what + " of the first", first[what], () -> x.changed(0, what));
            due("what " + what + " of the last", second[what], () -> x.changed(1, what));
        }
        for (int what : new int[] {LOW, -1, 5, FAR}) {
            due("what " + what, ARGUMENT, () -> x.changed(1, what));
        }
        for (int i : new int[] {LOW, -1, 2, FAR}) {
            due("change " + i, OUT, () -> x.changed(i, 0));
            due("change " + i + " before what", OUT, () -> x.changed(i, 5));
        }
    }

    private static void solutionsOfSteps() {
        says("15 SOLUTIONS of a step in the latest run(); NONE if .. it is no CHANGE");
        UpdateSteps x = new UpdateSteps();
        put(x, 1, 1, 1, 1);
        x.file(0, 1, 1, 1);
        int[] kinds = {PUT, TAKE, CLEAR, MAKE, DROP, COPY, MOVE, ADD, READ};
        for (int i = 0; i < kinds.length; i++) {
            x.step(kinds[i], 0, 1);
            x.silent(i, true);
        }
        x.template(0, -11, 1, 1, true);
        x.template(1, 1, 1, 1, false);
        x.step(CHANGE, 1, 1);
        x.step(CHANGE, 1, 1);
        x.pattern(10, -1, -2, -3);
        x.step(CHANGE, 1, 1);
        x.pattern(11, 5, -2, -3);
        x.run();
        for (int i = 0; i < kinds.length; i++) {
            int step = i;
            due("kind " + kinds[i], NONE, () -> x.solutions(step));
        }
        due("CHANGE without rows", 1, () -> x.solutions(9));
        due("CHANGE with a row", 1, () -> x.solutions(10));
        due("CHANGE with a row that no fact fits", 0, () -> x.solutions(11));
        for (int step : new int[] {LOW, -1, 12, FAR}) {
            due("step " + step, OUT, () -> x.solutions(step));
        }
    }

    private static void solutionsOfTheLatest() {
        says("15 NONE if that did not come to them, .. or came since");
        UpdateSteps x = new UpdateSteps();
        x.step(CHANGE, 0, 0);
        due("no run", NONE, () -> x.solutions(0));
        x.step(MAKE, 0, 1);
        x.step(CHANGE, 0, 0);
        x.run();
        due("it came to the first", 1, () -> x.solutions(0));
        due("and to the last", 1, () -> x.solutions(2));
        x.step(CHANGE, 0, 0);
        due("one that came since", NONE, () -> x.solutions(3));
        due("the others", 1, () -> x.solutions(2));
        x.pattern(0, 1, 1, 1);
        due("what a run found a row that comes does not change", 1, () -> x.solutions(0));
        x.run();
        due("the latest run found none", 0, () -> x.solutions(0));
        due("the latest run did not come to it", NONE, () -> x.solutions(2));
        x.silent(1, true);
        x.run();
        due("now it did", 1, () -> x.solutions(3));
    }

    private static void solutionsThatWereFound() {
        says("15 (Those that were found are told also when the step, or a later one, ended it.)");
        UpdateSteps x = new UpdateSteps();
        fill(x, 0, 1, 61);
        only(x, CHANGE, 0, 1);
        x.pattern(0, 1, -1, -2);
        x.step(CHANGE, 0, 1);
        x.pattern(1, 1, -1, -2);
        x.template(1, 1, 1, -11, true);
        x.step(CHANGE, 0, 1);
        due("the second has no room", -5, x::run);
        due("the first, a later one ended it", 61, () -> x.solutions(0));
        due("the second, which ended it", 61, () -> x.solutions(1));
        due("the third, which it did not come to", NONE, () -> x.solutions(2));
        only(x, CHANGE, 0, 1);
        x.pattern(0, 1, -1, -2);
        x.pattern(0, 1, -3, -4);
        due("too many", -6, x::run);
        due("it ends at the first that is too many", 101, () -> x.solutions(0));
    }

    private static void solutionsThatWorkEnds() {
        says("15 (Those that were found are told also when the step .. ended it.)");
        // 110 facts: 110 for the second row and one for the first make each of the 49 facts that fit 111 work.
        UpdateSteps x = new UpdateSteps();
        fill(x, 0, 1, 49);
        fill(x, 0, 2, 61);
        only(x, CHANGE, 0, 1);
        x.pattern(0, 1, -1, -2);
        x.pattern(0, 1, 0, 3);
        due("more than 5000 work", -6, x::run);
        due("the fact that was held as the 5000th fits", 46, () -> x.solutions(0));
        only(x, CHANGE, 0, 1);
        x.pattern(0, 1, -1, -2);
        x.pattern(0, 1, 0, 4);
        due("more than 5000 work", -6, x::run);
        due("the 5001st would have", 45, () -> x.solutions(0));
    }

    private static void toldNumbers() {
        says("16 Steps (what = 0), facts of all graphs (1), blanks that were made (2), CHANGES of the latest run() "
                + "that went through (3)");
        UpdateSteps x = new UpdateSteps();
        for (int what : new int[] {LOW, -1, 5, FAR}) {
            due("what " + what, ARGUMENT, () -> x.told(what));
        }
        for (int i = 0; i <= 4; i++) {
            int what = i;
            due("of a new object, what " + what, 0, () -> x.told(what));
        }
        x.step(PUT, 0, 0);
        x.template(0, -11, 1, -12, true);
        x.step(COPY, 0, 6);
        x.step(TAKE, 0, 0);
        x.run();
        due("steps", 3, () -> x.told(0));
        due("facts", 2, () -> x.told(1));
        due("blanks", 2, () -> x.told(2));
        due("changes", 2, () -> x.told(3));
        x.step(MAKE, 0, 6);
        x.run();
        due("steps", 4, () -> x.told(0));
        due("facts as before", 2, () -> x.told(1));
        due("blanks as before", 2, () -> x.told(2));
        due("changes of the run that went through", 2, () -> x.told(3));
        only(x, DROP, 0, ALL);
        x.run();
        due("steps", 1, () -> x.told(0));
        due("no facts", 0, () -> x.told(1));
        due("blanks that were made", 2, () -> x.told(2));
        due("changes", 2, () -> x.told(3));
        x.run();
        due("no changes", 0, () -> x.told(3));
    }

    private static void toldWork() {
        says("16 WORK of the latest run(), 0 if it ended at a step (4)");
        UpdateSteps x = new UpdateSteps();
        fill(x, 0, 1, 7);
        due("no CHANGE", 0, () -> x.told(4));
        only(x, CHANGE, 0, 1);
        x.pattern(0, 9, 9, 9);
        x.step(CHANGE, 0, 1);
        x.pattern(1, 1, 0, -1);
        x.run();
        due("of all steps", 14, () -> x.told(4));
        x.run();
        due("of the latest run alone", 14, () -> x.told(4));
        x.step(CLEAR, 0, 5);
        x.run();
        due("one that ended", 0, () -> x.told(4));
        x.silent(2, true);
        x.run();
        due("a silent step ends none", 14, () -> x.told(4));
        x.clear();
        due("told still", 14, () -> x.told(4));
        x.run();
        due("a run without steps", 0, () -> x.told(4));
    }
}
