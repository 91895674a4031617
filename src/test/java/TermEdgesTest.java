/** The sentences of the document's Terms that name a boundary: each is tried on both sides of it. */
public final class TermEdgesTest extends Scene {
    private static final Check CHECK = new Check();

    public static void main(String[] args) {
        graphNumbers();
        defaultGraphStays();
        factsOnce();
        factsInOneGraph();
        factsInAllGraphs();
        factsByEachKind();
        namesAndBlanks();
        blanksInOrder();
        blanksByPuts();
        blanksBySolutions();
        stepsOfTheSequence();
        silentAtFirst();
        templateRows();
        patternRows();
        terms();
        putRows();
        takeRows();
        changeTakesFirst();
        changeBlanks();
        leftOutRows();
        blankNumbers();
        graphsThatRowsMake();
        solutionsWithAndWithoutRows();
        solutionOrder();
        variablesHoldOneValue();
        graphThatIsNotThere();
        workCounts();
        clearAndDrop();
        make();
        copy();
        move();
        add();
        roomThatIsLeft();
        roomThatAddNeeds();
        read();
        allAndNamed();
        fromAsTo();
        reasonOne();
        reasonTwo();
        reasonThree();
        reasonFour();
        reasonFiveWork();
        reasonFiveWorkOfOneStep();
        reasonFiveSolutions();
        silentPasses();
        silentDoesNothing();
        silentEndsForFourAndFive();
        files();
        refusedCallsChangeNothing();
        callsOfOneObject();
        CHECK.end("TermEdgesTest");
    }

    private static void says(String words) {
        CHECK.says(words);
    }

    private static void due(String what, Object want, Check.Call call) {
        CHECK.due(what, want, call);
    }

    private static void graphNumbers() {
        says("GRAPHS are 0 (the default one, ..) and 1 .. 6 (none is there at first)");
        UpdateSteps x = new UpdateSteps();
        due("0 is there", 0, () -> x.many(0));
        for (int i = 1; i <= 6; i++) {
            int graph = i;
            due("not there at first", NONE, () -> x.many(graph));
            due("without facts then", false, () -> x.has(graph, 1, 2, 3));
            put(x, graph, 1, 2, 3);
            due("there now", 1, () -> x.many(graph));
            due("with its fact", true, () -> x.has(graph, 1, 2, 3));
            due("which is told", 3, () -> x.at(graph, 0, 2));
        }
        for (int i : new int[] {LOW, -2, -1, 7, 8, FAR}) {
            due("many of " + i, OUT, () -> x.many(i));
            due("has of " + i, OUT, () -> x.has(i, 1, 2, 3));
            due("at of " + i, OUT, () -> x.at(i, 0, 0));
        }
    }

    private static void defaultGraphStays() {
        says("0 (the default one, which is always there)");
        int[][] ways = {{DROP, 0, 0, 0}, {DROP, 0, ALL, 0}, {DROP, 0, NAMED, 1}, {MOVE, 0, 1, 0}, {MOVE, 1, 0, 1}};
        for (int[] way : ways) {
            UpdateSteps x = new UpdateSteps();
            put(x, 0, 1, 1, 1);
            put(x, 1, 2, 2, 2);
            only(x, way[0], way[1], way[2]);
            x.run();
            due("behind kind " + way[0] + " to " + way[2], way[3], () -> x.many(0));
            only(x, CLEAR, 0, 0);
            x.run();
            due("CLEAR finds it", NONE, x::fails);
        }
    }

    private static void factsOnce() {
        says("a graph has each once at most");
        UpdateSteps x = new UpdateSteps();
        only(x, PUT, 0, 1);
        x.template(0, 1, 1, 1, true);
        x.template(0, 1, 1, 1, true);
        due("PUT twice in a step", 1, x::run);
        due("PUT again", 0, x::run);
        x.file(0, 1, 1, 1);
        x.file(0, 2, 1, 1);
        x.file(0, 2, 1, 1);
        only(x, READ, 0, 1);
        due("READ twice in a file", 1, x::run);
        only(x, ADD, 1, 2);
        x.step(ADD, 1, 2);
        due("ADD twice", 2, x::run);
        only(x, CHANGE, 1, 3);
        x.pattern(0, -1, 1, 1);
        x.template(0, 5, 5, 5, true);
        due("CHANGE for two solutions", 1, x::run);
        due("once in each graph", "0[] 1[1,1,1 2,1,1] 2[1,1,1 2,1,1] 3[5,5,5] 0", () -> store(x));
        due("another graph may have it as well", 5, () -> x.told(1));
    }

    private static void factsInOneGraph() {
        says("all graphs together have 120 facts at most");
        UpdateSteps x = new UpdateSteps();
        fill(x, 0, 1, 100);
        fill(x, 0, 2, 19);
        only(x, PUT, 0, 0);
        x.template(0, 3, 0, 0, true);
        due("120 in one graph", 1, x::run);
        due("many", 120, () -> x.many(0));
        due("the last is told", 3, () -> x.at(0, 119, 0));
        x.template(0, 0, 0, 0, true);
        due("a 121st before the others", -5, x::run);
        only(x, PUT, 0, 0);
        x.template(0, 4, 0, 0, true);
        due("a 121st behind the others", -5, x::run);
        due("none came", 120, () -> x.told(1));
        due("the first is what it was", 1, () -> x.at(0, 0, 0));
        due("and no more", OUT, () -> x.at(0, 120, 0));
        only(x, PUT, 0, 0);
        x.template(0, 3, 0, 0, true);
        due("one that is there", 0, x::run);
        only(x, TAKE, 0, 0);
        x.template(0, 3, 0, 0, false);
        x.template(0, 1, 0, 0, false);
        x.template(0, 1, 9, 9, false);
        due("the last, the first and one between them go", 3, x::run);
        due("the first now", 1, () -> x.at(0, 0, 2));
        due("the last now", 8, () -> x.at(0, 116, 2));
        due("where one was between them", "9,8 0,0", () -> x.at(0, 97, 1) + "," + x.at(0, 97, 2) + " " + x.at(0, 98, 1)
                + "," + x.at(0, 98, 2));
        due("room for three", 117, () -> x.many(0));
    }

    private static void factsInAllGraphs() {
        says("all graphs together have 120 facts at most");
        UpdateSteps x = new UpdateSteps();
        fill(x, 0, 1, 18);
        for (int graph = 1; graph <= 6; graph++) {
            fill(x, graph, 1, graph == 6 ? 11 : 18);
        }
        due("119 in seven graphs", 119, () -> x.told(1));
        only(x, PUT, 0, 6);
        x.template(0, 2, 2, 2, true);
        due("120", 1, x::run);
        for (int i = 0; i <= 6; i++) {
            int graph = i;
            only(x, PUT, 0, graph);
            x.template(0, 3, 3, 3, true);
            due("121 with one in graph " + graph, -5, x::run);
        }
        due("120 then", 120, () -> x.told(1));
        only(x, TAKE, 0, 0);
        x.template(0, 1, 0, 0, false);
        x.step(PUT, 0, 5);
        x.template(1, 3, 3, 3, true);
        due("a step before made room", 2, x::run);
        only(x, PUT, 0, 5);
        x.template(0, 4, 4, 4, true);
        x.step(TAKE, 0, 5);
        x.template(1, 3, 3, 3, false);
        due("a step behind is too late", -5, x::run);
    }

    private static void factsByEachKind() {
        says("all graphs together have 120 facts at most");
        for (int kind : new int[] {PUT, CHANGE, COPY, ADD, READ}) {
            UpdateSteps x = new UpdateSteps();
            fill(x, 2, 9, 4);
            fill(x, 0, 1, 112);
            bringFour(x, kind);
            due("four more with kind " + kind, 4, x::run);
            due("120", 120, () -> x.told(1));
            UpdateSteps y = new UpdateSteps();
            fill(y, 2, 9, 4);
            fill(y, 0, 1, 113);
            bringFour(y, kind);
            due("four more are one too many with kind " + kind, -5, y::run);
            due("none came", 117, () -> y.told(1));
            due("nor their graph", NONE, () -> y.many(3));
        }
    }

    /** A step that brings the four facts of graph 2 into graph 3. */
    private static void bringFour(UpdateSteps x, int kind) {
        only(x, kind, kind == READ ? 0 : 2, 3);
        for (int i = 0; i < 4; i++) {
            if (kind == PUT) {
                x.template(0, 9, 0, i, true);
            } else if (kind == READ) {
                x.file(0, 9, 0, i);
            }
        }
        if (kind == CHANGE) {
            x.pattern(0, -1, -2, -3);
            x.template(0, -1, -2, -3, true);
        }
    }

    private static void namesAndBlanks() {
        says("In a fact subject and object are NAMES 0 .. 99 or BLANKS 100, 101, ..; the property is a name");
        UpdateSteps x = new UpdateSteps();
        only(x, PUT, 0, 0);
        due("the least names", 1, () -> x.template(0, 0, 0, 0, true));
        due("the greatest names", 2, () -> x.template(0, 99, 99, 99, true));
        due("a subject that is no name", ARGUMENT, () -> x.template(0, 100, 0, 0, true));
        due("a property that is no name", ARGUMENT, () -> x.template(0, 0, 100, 0, true));
        due("an object that is no name", ARGUMENT, () -> x.template(0, 0, 0, 100, true));
        due("a new blank as property", ARGUMENT, () -> x.template(0, 0, -11, 0, true));
        x.template(0, -11, 99, -12, true);
        x.template(0, 99, 99, -11, true);
        due("with blanks", 4, x::run);
        due("blanks stand behind names", "0,0,0 99,99,99 99,99,100 100,99,101", () -> facts(x, 0));
    }

    private static void blanksInOrder() {
        says("BLANKS are made in order");
        UpdateSteps x = new UpdateSteps();
        put(x, 0, -14, 1, -11);
        due("the first two", "100,1,101", () -> facts(x, 0));
        only(x, PUT, 0, 0);
        x.template(0, -11, 1, -11, true);
        x.step(CLEAR, 0, 1);
        due("a run that ends", -3, x::run);
        due("makes none", 2, () -> x.told(2));
        x.silent(1, true);
        due("the same run through", 1, x::run);
        due("none was left out", true, () -> x.has(0, 102, 1, 102));
        only(x, DROP, 0, 0);
        x.run();
        x.clear();
        put(x, 0, 5, 1, -12);
        due("numbers of facts that went are not used again", "5,1,103", () -> facts(x, 0));
    }

    private static void blanksByPuts() {
        says("BLANKS are made in order, 60 in all");
        UpdateSteps x = new UpdateSteps();
        only(x, PUT, 0, 0);
        for (int i = 0; i < 4; i++) {
            x.template(0, 1, 1, -11 - i, true);
        }
        for (int i = 0; i < 14; i++) {
            x.run();
        }
        due("56", 56, () -> x.told(2));
        only(x, PUT, 0, 0);
        for (int i = 0; i < 3; i++) {
            x.template(0, 1, 1, -11 - i, true);
        }
        due("59", 3, x::run);
        only(x, PUT, 0, 0);
        x.template(0, -11, 1, -12, true);
        due("subject is the 60th, object the 61st", -5, x::run);
        due("none of the two", 59, () -> x.told(2));
        only(x, PUT, 0, 0);
        x.template(0, -11, 1, -11, true);
        due("the 60th stands in both places", 1, x::run);
        due("its number", true, () -> x.has(0, 159, 1, 159));
        only(x, DROP, 0, ALL);
        x.step(PUT, 0, 0);
        x.template(1, 1, 1, -11, true);
        due("the 61st as object", -5, x::run);
        only(x, PUT, 0, 0);
        x.template(0, -11, 1, 1, true);
        due("the 61st as subject", -5, x::run);
        due("60 stay", 60, () -> x.told(2));
    }

    private static void blanksBySolutions() {
        says("BLANKS are made in order, 60 in all");
        for (int i = 0; i <= 1; i++) {
            int more = i;
            UpdateSteps x = new UpdateSteps();
            fill(x, 1, 7, 30 + more);
            only(x, CHANGE, 1, 2);
            x.pattern(0, 7, -1, -2);
            x.template(0, -11, 8, -12, true);
            due("a run that makes " + (60 + 2 * more), more == 0 ? 30 : -5, x::run);
            due("blanks", more == 0 ? 60 : 0, () -> x.told(2));
            due("TO", more == 0 ? 30 : NONE, () -> x.many(2));
        }
        UpdateSteps y = new UpdateSteps();
        fill(y, 1, 7, 60);
        only(y, CHANGE, 1, 1);
        y.pattern(0, 7, -1, -2);
        y.template(0, 7, -1, -2, false);
        y.template(0, 1, 1, -14, true);
        due("60 in one run", 120, y::run);
        due("the last one", 159, () -> y.at(1, 59, 2));
        only(y, CHANGE, 1, 1);
        y.pattern(0, 1, 2, -1);
        y.template(0, 1, 1, -14, true);
        due("without a solution none is made", 0, y::run);
        only(y, CHANGE, 1, 1);
        y.template(0, -14, -1, 1, true);
        due("in a row that is left out none is made", 0, y::run);
    }

    private static void stepsOfTheSequence() {
        says("THE SEQUENCE has STEPS, at most 12, numbered from 0 on");
        UpdateSteps x = new UpdateSteps();
        for (int round = 0; round < 2; round++) {
            for (int i = 0; i < 12; i++) {
                due("a step's number", i, () -> x.step(CLEAR, 0, 0));
            }
            due("a thirteenth", STATE, () -> x.step(CLEAR, 0, 0));
            due("all twelve", 12, () -> x.told(0));
            due("the last may be named", false, () -> x.silent(11, true));
            due("one behind it may not", OUT, () -> x.silent(12, true));
            due("twelve go", 12, x::clear);
        }
    }

    private static void silentAtFirst() {
        says("each of a KIND, .. SILENT or not (not at first)");
        UpdateSteps x = new UpdateSteps();
        for (int i = 0; i <= 9; i++) {
            int kind = i;
            x.step(kind, 0, 1);
            due("kind " + kind, false, () -> x.silent(kind, true));
            due("kind " + kind + " then", true, () -> x.silent(kind, true));
        }
        x.clear();
        x.step(MAKE, 0, 1);
        due("a step at a place where one was silent", false, () -> x.silent(0, false));
    }

    private static void templateRows() {
        says("TEMPLATES (at most 6 rows in all, that ADD, or take away)");
        UpdateSteps x = new UpdateSteps();
        x.step(PUT, 0, 0);
        x.step(TAKE, 0, 0);
        x.step(CHANGE, 0, 0);
        for (int i = 1; i <= 6; i++) {
            int row = i;
            due("PUT", i, () -> x.template(PUT, row, 1, 1, true));
            due("TAKE", i, () -> x.template(TAKE, row, 1, 1, false));
            due("CHANGE, both ways", i, () -> x.template(CHANGE, row, 1, 1, row <= 3));
        }
        due("a seventh of PUT", STATE, () -> x.template(PUT, 7, 1, 1, true));
        due("a seventh of TAKE", STATE, () -> x.template(TAKE, 7, 1, 1, false));
        due("a seventh of CHANGE that adds", STATE, () -> x.template(CHANGE, 7, 1, 1, true));
        due("a seventh of CHANGE that takes away", STATE, () -> x.template(CHANGE, 7, 1, 1, false));
        due("six come, six go, three come", 3, x::run);
        due("the three", "1,1,1 2,1,1 3,1,1", () -> facts(x, 0));
        only(x, TAKE, 0, 0);
        for (int i = 3; i >= -2; i--) {
            x.template(0, Math.max(i, 0), 1, 1, false);
        }
        due("a row that is told twice counts twice", STATE, () -> x.template(0, 0, 1, 1, false));
        due("three go", 3, x::run);
    }

    private static void patternRows() {
        says("a PATTERN (at most 4 rows)");
        UpdateSteps x = new UpdateSteps();
        put(x, 0, 1, 1, 2);
        put(x, 0, 2, 1, 3);
        put(x, 0, 3, 1, 4);
        put(x, 0, 4, 1, 5);
        only(x, CHANGE, 0, 1);
        due("first", 1, () -> x.pattern(0, -1, 1, 2));
        due("second", 2, () -> x.pattern(0, 2, 1, -2));
        due("third", 3, () -> x.pattern(0, -2, 1, -3));
        due("fourth", 4, () -> x.pattern(0, -3, 1, -4));
        due("a fifth", STATE, () -> x.pattern(0, 9, 9, 9));
        x.template(0, -1, -2, -4, true);
        due("all four count, the fifth does not", 1, x::run);
        due("the row", "1,3,5", () -> facts(x, 1));
        x.step(CHANGE, 0, 1);
        due("another step has its own", 1, () -> x.pattern(1, 1, 1, 1));
    }

    private static void terms() {
        says("A TERM of a row is a name, a VARIABLE -1 .. -4, or, in a template that adds, a NEW blank -11 .. -14");
        for (int term = -17; term <= 102; term++) {
            boolean name = term >= 0 && term <= 99;
            boolean variable = term >= -4 && term <= -1;
            boolean fresh = term >= -14 && term <= -11;
            termMay(term, name, variable, fresh);
        }
        for (int term : new int[] {FAR, LOW, 256, 65536, -256, -65536, LOW + 1, FAR - 100}) {
            termMay(term, false, false, false);
        }
    }

    private static void termMay(int term, boolean name, boolean variable, boolean fresh) {
        UpdateSteps x = new UpdateSteps();
        x.step(CHANGE, 0, 0);
        x.step(CHANGE, 0, 0);
        String told = "term " + term;
        due(told + " of a row that adds", name || variable || fresh ? 1 : ARGUMENT, () -> x.template(0, term, 1, term, true));
        due(told + " as its property", name || variable ? 2 : ARGUMENT, () -> x.template(0, 1, term, 1, true));
        due(told + " of a row that takes away", name || variable ? 1 : ARGUMENT, () -> x.template(1, term, 1, term, false));
        due(told + " as its property", name || variable ? 2 : ARGUMENT, () -> x.template(1, 1, term, 1, false));
        due(told + " as subject of a pattern", name || variable ? 1 : ARGUMENT, () -> x.pattern(0, term, 1, 1));
        due(told + " as property of a pattern", name || variable ? 2 : ARGUMENT, () -> x.pattern(0, 1, term, 1));
        due(told + " as object of a pattern", name || variable ? 3 : ARGUMENT, () -> x.pattern(0, 1, 1, term));
    }

    private static void putRows() {
        says("0 PUT: its templates (without variables) come into TO: a new blank for each of -11 .. -14 that it has");
        UpdateSteps x = new UpdateSteps();
        only(x, PUT, 0, 1);
        for (int i = -4; i <= -1; i++) {
            int variable = i;
            due("a variable as subject", ARGUMENT, () -> x.template(0, variable, 1, 1, true));
            due("a variable as property", ARGUMENT, () -> x.template(0, 1, variable, 1, true));
            due("a variable as object", ARGUMENT, () -> x.template(0, 1, 1, variable, true));
        }
        x.template(0, -11, 1, -12, true);
        x.template(0, -13, 1, -14, true);
        x.template(0, -12, 2, -13, true);
        x.template(0, -14, 2, -11, true);
        due("four marks, four blanks", 4, x::run);
        due("the same all through the step", "100,1,101 101,2,102 102,1,103 103,2,100", () -> facts(x, 1));
        only(x, PUT, 0, 1);
        x.template(0, 1, 1, 1, true);
        due("no mark", 1, x::run);
        due("no blank", 4, () -> x.told(2));
        only(x, PUT, 0, 2);
        x.template(0, -11, 1, 1, true);
        x.step(PUT, 0, 2);
        x.template(1, -11, 1, 1, true);
        due("each step has its own", 2, x::run);
        due("two blanks", "104,1,1 105,1,1", () -> facts(x, 2));
        only(x, PUT, 0, 2);
        due("no rows at all", 0, x::run);
    }

    private static void takeRows() {
        says("1 TAKE: its templates (names alone) go out of TO");
        UpdateSteps x = new UpdateSteps();
        put(x, 1, 0, 0, 0);
        put(x, 1, 99, 99, 99);
        put(x, 1, 5, 5, -11);
        put(x, 2, 0, 0, 0);
        only(x, TAKE, 0, 1);
        for (int term : new int[] {-1, -4, -11, -14, 100}) {
            due("term " + term + " as subject", ARGUMENT, () -> x.template(0, term, 1, 1, false));
            due("term " + term + " as property", ARGUMENT, () -> x.template(0, 1, term, 1, false));
            due("term " + term + " as object", ARGUMENT, () -> x.template(0, 1, 1, term, false));
        }
        due("without rows", 0, x::run);
        x.template(0, 0, 0, 1, false);
        due("what is not there", 0, x::run);
        x.template(0, 0, 0, 0, false);
        x.template(0, 99, 99, 99, false);
        due("the least and the greatest", 2, x::run);
        due("out of TO alone", "0[] 1[5,5,100] 2[0,0,0] 1", () -> store(x));
    }

    private static void changeTakesFirst() {
        says("first, for all of them, the templates that take away go out of TO, then .. those that add come into TO");
        UpdateSteps x = new UpdateSteps();
        put(x, 0, 1, 1, 2);
        put(x, 0, 2, 1, 1);
        only(x, CHANGE, 0, 0);
        x.pattern(0, -1, 1, -2);
        x.template(0, -2, 1, -1, true);
        x.template(0, -1, 1, -2, false);
        due("what one solution adds the other takes away", 0, x::run);
        due("it is there in the end", "1,1,2 2,1,1", () -> facts(x, 0));
        only(x, CHANGE, 0, 0);
        x.template(0, 7, 7, 7, true);
        x.template(0, 7, 7, 7, false);
        due("both ways in one solution", 1, x::run);
        due("both ways once more", 0, x::run);
        only(x, CHANGE, 0, 0);
        x.pattern(0, -1, -2, -3);
        x.template(0, -1, -2, -3, false);
        x.template(0, -3, 1, 1, false);
        due("all go", 3, x::run);
        due("solutions are those of before", 3, () -> x.solutions(0));
    }

    private static void changeBlanks() {
        says("solution by solution, row by row, those that add come into TO, with new blanks for each solution");
        UpdateSteps x = new UpdateSteps();
        put(x, 0, 1, 1, 8);
        put(x, 0, 2, 1, 9);
        only(x, CHANGE, 0, 1);
        x.pattern(0, -1, 1, -2);
        x.template(0, -1, 2, -12, true);
        x.template(0, -2, 2, -11, true);
        x.template(0, -11, 2, -12, true);
        due("two solutions of three rows", 6, x::run);
        due("each with two blanks of its own", "1,2,100 2,2,102 8,2,101 9,2,103 101,2,100 103,2,102", () -> facts(x, 1));
        due("four blanks", 4, () -> x.told(2));
    }

    private static void leftOutRows() {
        says("A row with a variable that has no value, or a blank as its property, is left out (and makes no blanks)");
        UpdateSteps x = new UpdateSteps();
        put(x, 0, -11, 1, 50);
        only(x, CHANGE, 0, 1);
        x.pattern(0, -1, 1, -2);
        x.template(0, -3, 2, -11, true);
        x.template(0, -11, -4, 2, true);
        x.template(0, -11, 2, -3, true);
        x.template(0, -11, -1, -12, true);
        due("four rows that are left out", 0, x::run);
        due("make no blanks", 1, () -> x.told(2));
        due("nor a graph", NONE, () -> x.many(1));
        x.template(0, -1, -2, -14, true);
        due("a name as property, and values", 1, x::run);
        due("its row", "100,50,101", () -> facts(x, 1));
        only(x, CHANGE, 0, 1);
        x.pattern(0, -1, 1, -2);
        x.pattern(0, -1, -3, -2);
        x.template(0, -1, -1, -2, false);
        x.template(0, -4, 50, -2, false);
        due("rows that take away are left out", 0, x::run);
        put(x, 1, 9, 9, 9);
        only(x, CHANGE, 1, 1);
        x.pattern(0, -1, 50, -2);
        x.template(0, -1, 50, -2, false);
        due("one that is not takes away", 1, x::run);
        due("the blanks go", "9,9,9", () -> facts(x, 1));
    }

    private static void blankNumbers() {
        says("New blanks get their numbers when they first stand in a row that is not left out, subject before object");
        UpdateSteps x = new UpdateSteps();
        put(x, 0, 1, 1, 1);
        only(x, CHANGE, 0, 1);
        x.pattern(0, -1, -1, -1);
        x.template(0, -12, 5, -2, true);
        x.template(0, -14, 6, -13, true);
        x.template(0, -13, 7, -12, true);
        due("two rows", 2, x::run);
        due("subject first; the row that is left out counts not", "100,6,101 101,7,102", () -> facts(x, 1));
        only(x, PUT, 0, 2);
        x.template(0, 1, 1, -14, true);
        x.template(0, -11, 1, -14, true);
        due("two rows of PUT", 2, x::run);
        due("object of the first row before subject of the second", "1,1,103 104,1,103", () -> facts(x, 2));
    }

    private static void graphsThatRowsMake() {
        says("PUT and CHANGE make the graph TO, if it is not there and some row that adds comes; "
                + "TAKE and those of CHANGE that take away do nothing where there is no graph");
        UpdateSteps x = new UpdateSteps();
        only(x, PUT, 0, 1);
        x.step(TAKE, 0, 2);
        x.template(1, 1, 1, 1, false);
        x.step(CHANGE, 0, 3);
        x.template(2, 1, 1, 1, false);
        x.step(CHANGE, 0, 4);
        x.pattern(3, 1, 1, 1);
        x.template(3, 1, 1, 1, true);
        x.step(CHANGE, 0, 5);
        x.template(4, -1, 1, 1, true);
        x.step(CHANGE, 0, 6);
        due("no row comes", 0, x::run);
        due("no graph is made", "0[] 0", () -> store(x));
        x.template(0, 1, 1, 1, true);
        x.template(2, 1, 1, 2, true);
        x.template(4, 1, 1, 3, true);
        due("rows come", 3, x::run);
        due("they make theirs", "0[] 1[1,1,1] 3[1,1,2] 5[1,1,3] 0", () -> store(x));
        only(x, TAKE, 0, 1);
        x.template(0, 1, 1, 1, false);
        x.step(CHANGE, 0, 3);
        x.template(1, 1, 1, 2, false);
        due("the last facts go", 2, x::run);
        due("the graphs stay", "0[] 1[] 3[] 5[1,1,3] 0", () -> store(x));
    }

    private static void solutionsWithAndWithoutRows() {
        says("without rows there is one, without values");
        UpdateSteps x = new UpdateSteps();
        put(x, 0, 1, 1, 1);
        put(x, 0, 2, 2, 2);
        only(x, CHANGE, 0, 1);
        x.template(0, 9, 9, -11, true);
        x.template(0, 9, 9, -1, true);
        due("one row comes", 1, x::run);
        due("one solution", 1, () -> x.solutions(0));
        due("no work", 0, () -> x.told(4));
        x.pattern(0, -1, -1, -1);
        due("with a row", 4, x::run);
        due("two solutions", 2, () -> x.solutions(0));
        due("work", 2, () -> x.told(4));
        only(x, CHANGE, 0, 1);
        x.pattern(0, 3, 3, 3);
        x.template(0, 8, 8, 8, true);
        due("a row that no fact fits", 0, x::run);
        due("no solution", 0, () -> x.solutions(0));
    }

    private static void solutionOrder() {
        says("they stand in the order of the facts (by subject, property, object) of their first row, "
                + "then of their second one, and so on");
        UpdateSteps x = new UpdateSteps();
        put(x, 0, 2, 1, 1);
        put(x, 0, 1, 2, 1);
        put(x, 0, 1, 1, 2);
        put(x, 0, 1, 1, 1);
        only(x, CHANGE, 0, 1);
        x.pattern(0, -1, -2, -3);
        x.template(0, -11, -2, -1, true);
        x.template(0, -11, 3, -3, true);
        x.run();
        due("one row", "100,1,1 100,3,1 101,1,1 101,3,2 102,2,1 102,3,1 103,1,2 103,3,1", () -> facts(x, 1));
        only(x, CHANGE, 0, 2);
        x.pattern(0, -1, 1, 1);
        x.pattern(0, 1, 1, -2);
        x.pattern(0, 1, -3, 1);
        x.template(0, -1, -3, -2, false);
        x.template(0, -11, -1, -2, true);
        x.template(0, -11, -3, 9, true);
        x.run();
        due("three rows", "104,1,1 104,1,9 105,1,1 105,2,9 106,1,2 106,1,9 107,1,2 107,2,9 "
                + "108,1,9 108,2,1 109,2,1 109,2,9 110,1,9 110,2,2 111,2,2 111,2,9", () -> facts(x, 2));
    }

    private static void variablesHoldOneValue() {
        says("SOLUTIONS give names or blanks to variables, so that each row of the pattern is a fact of FROM then");
        UpdateSteps x = new UpdateSteps();
        put(x, 1, 1, 1, 1);
        put(x, 1, 1, 1, 2);
        put(x, 1, 2, 1, 2);
        put(x, 1, 2, 2, 2);
        put(x, 1, -11, 1, -11);
        int[][] rows = {{-1, -2, -3, 5}, {-1, -1, -1, 2}, {-1, -1, -2, 3}, {-1, -2, -1, 4}, {-1, -2, -2, 2},
            {1, 1, -4, 2}, {-4, 1, 2, 2}, {1, -4, 1, 1}, {1, 1, 1, 1}, {0, 1, 1, 0}, {99, -1, -2, 0}};
        for (int[] row : rows) {
            only(x, CHANGE, 1, 2);
            x.pattern(0, row[0], row[1], row[2]);
            x.run();
            due("of " + row[0] + " " + row[1] + " " + row[2], row[3], () -> x.solutions(0));
        }
        only(x, CHANGE, 1, 2);
        x.pattern(0, -1, 1, -2);
        x.pattern(0, -2, 2, -1);
        x.run();
        due("values of the first row hold in the second", 1, () -> x.solutions(0));
        only(x, CHANGE, 0, 2);
        x.pattern(0, -1, -2, -3);
        x.run();
        due("facts of another graph are none", 0, () -> x.solutions(0));
    }

    private static void graphThatIsNotThere() {
        says("A graph that is not there has no facts");
        UpdateSteps x = new UpdateSteps();
        put(x, 1, 1, 1, 1);
        only(x, CHANGE, 6, 2);
        x.pattern(0, -1, -2, -3);
        x.template(0, 5, 5, 5, true);
        due("the step is done", 0, x::run);
        due("without solutions", 0, () -> x.solutions(0));
        due("and without work", 0, () -> x.told(4));
        due("FROM is not made", NONE, () -> x.many(6));
        only(x, DROP, 0, 1);
        x.step(CHANGE, 1, 2);
        x.pattern(1, -1, -2, -3);
        due("one that was dropped before", 1, x::run);
        due("has none either", 0, () -> x.solutions(1));
        only(x, CHANGE, 6, 2);
        x.template(0, 5, 5, 5, true);
        due("without rows there is a solution", 1, x::run);
    }

    private static void workCounts() {
        says("Each fact that is held against a row with the values so far is WORK");
        UpdateSteps x = new UpdateSteps();
        put(x, 0, 1, 1, 1);
        put(x, 0, 1, 1, 2);
        put(x, 0, 2, 2, 2);
        put(x, 3, 2, 2, 2);
        int[][] rows = {{-1, 1, -2, 3 + 2 * 3}, {9, 9, 9, 3}, {2, 2, -2, 3 + 3}, {-1, -3, -2, 3 + 3 * 3}};
        for (int[] row : rows) {
            only(x, CHANGE, 0, 1);
            x.pattern(0, row[0], row[1], row[2]);
            due("no change", 0, x::run);
            due("with one row", 3, () -> x.told(4));
            x.pattern(0, -4, 2, -4);
            due("no change", 0, x::run);
            due("with a second row behind " + row[0] + " " + row[1] + " " + row[2], row[3], () -> x.told(4));
        }
        only(x, CHANGE, 3, 1);
        x.pattern(0, -1, -1, -1);
        due("no change", 0, x::run);
        due("facts of other graphs are no work", 1, () -> x.told(4));
    }

    private static void clearAndDrop() {
        says("3 CLEAR: all facts of TO go. 5 DROP: they go, and the graph, too (but the default one)");
        for (int i = 0; i <= 6; i++) {
            int graph = i;
            UpdateSteps x = new UpdateSteps();
            put(x, graph, 1, 1, 1);
            put(x, graph, 99, 99, -11);
            put(x, (graph + 1) % 7, 5, 5, 5);
            only(x, CLEAR, 0, graph);
            due("CLEAR " + graph, 2, x::run);
            due("it is there still", 0, () -> x.many(graph));
            due("CLEAR what is empty", 0, x::run);
            put(x, graph, 1, 1, 1);
            only(x, DROP, 0, graph);
            due("DROP " + graph, 1, x::run);
            due("it is gone, but the default one", graph == 0 ? 0 : NONE, () -> x.many(graph));
            due("another has its fact", true, () -> x.has((graph + 1) % 7, 5, 5, 5));
            due("DROP again", graph == 0 ? 0 : -3, x::run);
        }
    }

    private static void make() {
        says("4 MAKE: TO is made, without facts");
        UpdateSteps x = new UpdateSteps();
        for (int i = 1; i <= 6; i++) {
            int graph = i;
            only(x, MAKE, 0, graph);
            due("MAKE " + graph, 0, x::run);
            due("without facts", 0, () -> x.many(graph));
            due("MAKE again", -2, x::run);
        }
        put(x, 1, 1, 1, 1);
        only(x, DROP, 0, 1);
        x.step(MAKE, 0, 1);
        due("one that was dropped", 1, x::run);
        due("without the facts of before", 0, () -> x.many(1));
        due("all seven", "0[] 1[] 2[] 3[] 4[] 5[] 6[] 0", () -> store(x));
    }

    private static void copy() {
        says("6 COPY: TO gets just the facts of FROM (it is made if it is not there)");
        UpdateSteps x = new UpdateSteps();
        put(x, 1, 1, 1, 1);
        put(x, 1, 3, 3, -11);
        put(x, 2, 1, 1, 1);
        put(x, 2, 2, 2, 2);
        only(x, COPY, 1, 2);
        due("one goes, one comes", 2, x::run);
        due("just those", "0[] 1[1,1,1 3,3,100] 2[1,1,1 3,3,100] 1", () -> store(x));
        only(x, COPY, 1, 3);
        due("where no graph is", 2, x::run);
        due("it is made", 2, () -> x.many(3));
        only(x, MAKE, 0, 4);
        x.step(COPY, 4, 3);
        x.step(COPY, 4, 5);
        due("of an empty graph", 2, x::run);
        due("TO is empty, or made", "0[] 1[1,1,1 3,3,100] 2[1,1,1 3,3,100] 3[] 4[] 5[] 1", () -> store(x));
        only(x, COPY, 1, 0);
        x.step(COPY, 0, 6);
        due("to the default one, and from it", 4, x::run);
        due("all there", "1,1,1 3,3,100", () -> facts(x, 6));
        only(x, PUT, 0, 6);
        x.template(0, 7, 7, 7, true);
        x.run();
        due("later facts of the one are not the other's", 2, () -> x.many(0));
    }

    private static void move() {
        says("7 MOVE: likewise, and FROM is dropped");
        UpdateSteps x = new UpdateSteps();
        put(x, 1, 1, 1, 1);
        put(x, 1, 3, 3, -11);
        put(x, 2, 1, 1, 1);
        put(x, 2, 2, 2, 2);
        only(x, MOVE, 1, 2);
        due("two go from FROM, one goes, one comes", 4, x::run);
        due("just those", "0[] 2[1,1,1 3,3,100] 1", () -> store(x));
        due("FROM is not there then", -3, x::run);
        only(x, MOVE, 2, 0);
        due("to the default one", 4, x::run);
        due("there", "0[1,1,1 3,3,100] 1", () -> store(x));
        only(x, MOVE, 0, 6);
        due("from the default one", 4, x::run);
        due("which stays, without facts", "0[] 6[1,1,1 3,3,100] 1", () -> store(x));
        due("an empty one", 2, x::run);
        due("empties TO", "0[] 6[] 1", () -> store(x));
        only(x, MOVE, 6, 5);
        due("an empty one to where no graph is", 0, x::run);
        due("makes it", "0[] 5[] 1", () -> store(x));
    }

    private static void add() {
        says("8 ADD: the facts of FROM come to those of TO (it is made if it is not there, also without facts)");
        UpdateSteps x = new UpdateSteps();
        put(x, 1, 1, 1, 1);
        put(x, 1, 3, 3, -11);
        put(x, 2, 1, 1, 1);
        put(x, 2, 2, 2, 2);
        only(x, ADD, 1, 2);
        due("one comes", 1, x::run);
        due("to those of TO", "0[] 1[1,1,1 3,3,100] 2[1,1,1 2,2,2 3,3,100] 1", () -> store(x));
        due("again", 0, x::run);
        only(x, ADD, 1, 3);
        due("where no graph is", 2, x::run);
        due("it is made", "1,1,1 3,3,100", () -> facts(x, 3));
        only(x, ADD, 0, 4);
        due("of an empty graph", 0, x::run);
        due("TO is made, also without facts", 0, () -> x.many(4));
        only(x, ADD, 0, 3);
        due("an empty one to some", 0, x::run);
        due("they stay", 2, () -> x.many(3));
        only(x, ADD, 3, 0);
        due("to the default one", 2, x::run);
    }

    private static void roomThatIsLeft() {
        says("What goes from TO (COPY, MOVE), or from FROM (MOVE), is gone before facts come: it takes no room then");
        UpdateSteps x = new UpdateSteps();
        fill(x, 1, 1, 60);
        fill(x, 2, 2, 60);
        only(x, COPY, 1, 2);
        due("COPY 60 to where 60 go", 120, x::run);
        only(x, TAKE, 0, 2);
        x.template(0, 1, 0, 0, false);
        x.run();
        put(x, 1, 3, 3, 3);
        only(x, COPY, 1, 2);
        due("COPY 61 to where 59 go", -5, x::run);
        only(x, COPY, 2, 1);
        due("COPY 59 to where 61 go", 2, x::run);
        only(x, MOVE, 1, 2);
        due("MOVE likewise", 59, x::run);
        UpdateSteps y = new UpdateSteps();
        fill(y, 1, 1, 120);
        only(y, MOVE, 1, 2);
        due("MOVE all 120 to where no graph is", 240, y::run);
        only(y, COPY, 2, 0);
        due("COPY all 120", -5, y::run);
        only(y, COPY, 0, 2);
        due("COPY none to where 120 go", 120, y::run);
        UpdateSteps z = new UpdateSteps();
        fill(z, 1, 1, 61);
        fill(z, 2, 2, 59);
        only(z, MOVE, 1, 2);
        due("MOVE 61 to where 59 go", 61 + 61 + 59, z::run);
        only(z, COPY, 2, 3);
        due("COPY 61 beside them", -5, z::run);
    }

    private static void roomThatAddNeeds() {
        says("8 ADD: the facts of FROM come to those of TO: none goes, those that are there take no room again");
        UpdateSteps x = new UpdateSteps();
        fill(x, 1, 1, 60);
        fill(x, 2, 1, 30);
        fill(x, 3, 3, 1);
        only(x, ADD, 1, 2);
        due("30 to 91", -5, x::run);
        only(x, DROP, 0, 3);
        x.step(ADD, 1, 2);
        due("30 to 90", 31, x::run);
        due("120", 120, () -> x.told(1));
        only(x, ADD, 1, 2);
        due("what is there, in a full store", 0, x::run);
        only(x, MAKE, 0, 3);
        x.step(ADD, 3, 1);
        x.step(ADD, 3, 4);
        due("nothing, in a full store", 0, x::run);
        due("that makes a graph", 0, () -> x.many(4));
        only(x, ADD, 1, 4);
        due("all of a graph, in a full store", -5, x::run);
    }

    private static void read() {
        says("9 READ: the rows of FILE FROM come into TO (which is made)");
        UpdateSteps x = new UpdateSteps();
        only(x, READ, 3, 1);
        due("a file without rows", 0, x::run);
        due("TO is made", "0[] 1[] 0", () -> store(x));
        for (int i = 0; i < 10; i++) {
            x.file(3, 9 - i, 1, 1);
        }
        x.file(0, 50, 1, 1);
        due("a file with ten rows", 10, x::run);
        due("the first and the last", "0 9", () -> x.at(1, 0, 0) + " " + x.at(1, 9, 0));
        due("again", 0, x::run);
        only(x, READ, 0, 1);
        due("to those of TO", 1, x::run);
        due("eleven", 11, () -> x.many(1));
        only(x, READ, 0, 0);
        due("into the default one", 1, x::run);
        only(x, READ, 1, 1);
        due("another file has none", 0, x::run);
    }

    private static void allAndNamed() {
        says("TO may be ALL (-1), or NAMED (-2: graphs 1 .. 6), for CLEAR and DROP: then those that are there");
        int[][] ways = {{CLEAR, ALL, 5}, {CLEAR, NAMED, 4}, {DROP, ALL, 5}, {DROP, NAMED, 4}};
        String[] behind = {"0[] 1[] 2[] 4[] 6[] 0", "0[1,1,1] 1[] 2[] 4[] 6[] 0", "0[] 0", "0[1,1,1] 0"};
        for (int i = 0; i < ways.length; i++) {
            int[] way = ways[i];
            UpdateSteps x = new UpdateSteps();
            only(x, way[0], 0, way[1]);
            due("none is there but the default one", 0, x::run);
            due("and that stays", "0[] 0", () -> store(x));
            for (int graph : new int[] {0, 1, 4, 6}) {
                put(x, graph, 1, 1, 1);
            }
            put(x, 6, 2, 2, 2);
            only(x, MAKE, 0, 2);
            x.run();
            only(x, way[0], 0, way[1]);
            due("those that are there", way[2], x::run);
            due("none is made", behind[i], () -> store(x));
        }
        for (int kind = PUT; kind <= READ; kind++) {
            int step = kind;
            boolean takes = kind == CLEAR || kind == DROP;
            UpdateSteps x = new UpdateSteps();
            due("ALL in kind " + kind, takes ? 0 : ARGUMENT, () -> x.step(step, 0, -1));
            due("NAMED in kind " + kind, takes ? 1 : ARGUMENT, () -> x.step(step, 0, -2));
            due("-3 in kind " + kind, ARGUMENT, () -> x.step(step, 0, -3));
            due("as FROM in kind " + kind, kind == CHANGE || kind >= COPY ? ARGUMENT : takes ? 2 : 0,
                    () -> x.step(step, -1, 1));
        }
    }

    private static void fromAsTo() {
        says("6 to 8 with FROM as TO do nothing, if it is there");
        for (int kind = COPY; kind <= ADD; kind++) {
            UpdateSteps x = new UpdateSteps();
            only(x, kind, 1, 1);
            due("not there", -3, x::run);
            due("not made", "0[] 0", () -> store(x));
            only(x, MAKE, 0, 1);
            x.step(kind, 1, 1);
            due("there, without facts", 0, x::run);
            due("it stays", "0[] 1[] 0", () -> store(x));
            only(x, kind, 0, 0);
            due("the default one", 0, x::run);
            fill(x, 1, 1, 100);
            fill(x, 0, 2, 20);
            only(x, kind, 1, 1);
            x.step(kind, 0, 0);
            due("in a full store", 0, x::run);
            due("all stay", 100, () -> x.many(1));
            due("in the default one, too", 20, () -> x.many(0));
        }
    }

    private static void reasonOne() {
        says("1 the graph that MAKE would make is there");
        UpdateSteps x = new UpdateSteps();
        only(x, MAKE, 0, 6);
        due("not there", 0, x::run);
        due("there, without facts", -2, x::run);
        put(x, 6, 1, 1, 1);
        only(x, MAKE, 0, 6);
        due("there, with facts", -2, x::run);
        due("which it keeps", 1, () -> x.many(6));
        only(x, DROP, 0, 6);
        x.step(MAKE, 0, 6);
        x.step(MAKE, 0, 6);
        due("made twice in a run", -2, x::run);
        due("ended at the second", 2, x::fails);
    }

    private static void reasonTwo() {
        says("2 a graph is not there that CLEAR, DROP (TO alone), or 6 to 8 (FROM) need");
        for (int kind : new int[] {CLEAR, DROP, COPY, MOVE, ADD}) {
            boolean takes = kind == CLEAR || kind == DROP;
            UpdateSteps x = new UpdateSteps();
            only(x, MAKE, 0, 2);
            x.run();
            only(x, kind, takes ? 2 : 1, takes ? 1 : 2);
            due("not there, kind " + kind, -3, x::run);
            due("the other one stays", "0[] 2[] 0", () -> store(x));
            only(x, kind, takes ? 1 : 2, takes ? 2 : 1);
            due("there, without facts, kind " + kind, 0, x::run);
        }
        for (int kind : new int[] {PUT, TAKE, CHANGE, READ}) {
            UpdateSteps x = new UpdateSteps();
            only(x, kind, 1, 5);
            due("kind " + kind + " needs none", 0, x::run);
        }
    }

    private static void reasonThree() {
        says("3 the FILE is TORN");
        UpdateSteps x = new UpdateSteps();
        for (int i = 0; i <= 3; i++) {
            int file = i;
            x.file(file, 1, 1, 1);
            only(x, READ, file, file);
            x.torn(file, true);
            due("torn " + file, -4, x::run);
            x.torn(file, false);
            due("no more " + file, 1, x::run);
            x.torn((file + 1) % 4, true);
            due("another one is", 0, x::run);
            x.torn((file + 1) % 4, false);
        }
        x.torn(2, true);
        only(x, COPY, 2, 6);
        due("a file that is not read may be torn", 1, x::run);
        UpdateSteps y = new UpdateSteps();
        y.torn(0, true);
        only(y, READ, 0, 1);
        due("torn, without rows", -4, y::run);
        due("TO is not made", NONE, () -> y.many(1));
    }

    private static void reasonFour() {
        says("4 there would be more facts or blanks than may be");
        UpdateSteps x = new UpdateSteps();
        fill(x, 1, 1, 60);
        only(x, CHANGE, 1, 0);
        x.pattern(0, 1, -1, -2);
        x.template(0, 2, -1, -11, true);
        due("60 more facts, 60 blanks", 60, x::run);
        due("120", 120, () -> x.told(1));
        due("60", 60, () -> x.told(2));
        only(x, CLEAR, 0, 1);
        x.step(PUT, 0, 0);
        x.template(1, 3, 3, -11, true);
        due("room for a fact, none for a blank", -5, x::run);
        UpdateSteps y = new UpdateSteps();
        fill(y, 1, 1, 120);
        only(y, PUT, 0, 0);
        y.template(0, 3, 3, -11, true);
        due("room for a blank, none for a fact", -5, y::run);
        due("no blank was made", 0, () -> y.told(2));
        only(y, CHANGE, 1, 1);
        y.pattern(0, 1, 0, 0);
        y.template(0, 1, 0, 0, false);
        y.template(0, 3, 3, -11, true);
        due("what goes in the step makes room", 2, y::run);
    }

    private static void reasonFiveWork() {
        says("5 more than 5000 WORK in one step");
        UpdateSteps x = new UpdateSteps();
        fill(x, 0, 1, 49);
        fill(x, 0, 2, 51);
        only(x, CHANGE, 0, 1);
        x.pattern(0, 1, -1, -2);
        x.pattern(0, 3, -3, -4);
        due("100 facts against a row, and 49 times against another", 0, x::run);
        due("5000", 5000, () -> x.told(4));
        UpdateSteps y = new UpdateSteps();
        fill(y, 0, 1, 60);
        fill(y, 0, 2, 22);
        only(y, CHANGE, 0, 1);
        y.pattern(0, 1, -1, -2);
        y.pattern(0, 3, -3, -4);
        due("82 facts against a row, and 60 times against another: 5002", -6, y::run);
        due("it ended there", 0, y::fails);
        due("its work is not told", 0, () -> y.told(4));
        due("no solution was found", 0, () -> y.solutions(0));
        UpdateSteps z = new UpdateSteps();
        fill(z, 0, 1, 33);
        fill(z, 0, 2, 2);
        fill(z, 0, 3, 15);
        only(z, CHANGE, 0, 1);
        z.pattern(0, 1, -1, -2);
        z.pattern(0, 2, 0, -3);
        z.pattern(0, 3, 0, 0);
        due("50 facts, once, 33 times and 66 times", 0, z::run);
        due("5000 with three rows", 5000, () -> z.told(4));
        due("with solutions", 66, () -> z.solutions(0));
        z.pattern(0, 4, 0, 0);
        due("66 times more", -6, z::run);
        due("none of them was found", 0, () -> z.solutions(0));
    }

    private static void reasonFiveWorkOfOneStep() {
        says("5 more than 5000 WORK in one step");
        UpdateSteps x = new UpdateSteps();
        fill(x, 0, 1, 49);
        fill(x, 0, 2, 51);
        x.clear();
        for (int i = 0; i < 12; i++) {
            x.step(CHANGE, 0, 1);
            x.pattern(i, 1, -1, -2);
            x.pattern(i, 3, -3, -4);
        }
        due("twelve steps with 5000 each", 0, x::run);
        due("work of the run", 60000, () -> x.told(4));
        x.pattern(11, 4, 4, 4);
        due("a row that is not come to is no work", 0, x::run);
        x.clear();
        put(x, 0, 1, 50, 50);
        for (int i = 0; i < 2; i++) {
            x.step(CHANGE, 0, 1);
        }
        x.pattern(1, 1, -1, -2);
        x.pattern(1, 3, -3, -4);
        due("101 facts and 50 times more: 5151", -6, x::run);
        due("ended at the second", 1, x::fails);
    }

    private static void reasonFiveSolutions() {
        says("5 .. or more than 100 solutions");
        UpdateSteps x = new UpdateSteps();
        fill(x, 0, 1, 10);
        only(x, CHANGE, 0, 1);
        x.pattern(0, 1, 0, -1);
        x.pattern(0, 1, 0, -2);
        x.template(0, 5, 5, -2, true);
        due("ten times ten", 10, x::run);
        due("100 are told", 100, () -> x.solutions(0));
        put(x, 0, 1, 0, 10);
        only(x, CHANGE, 0, 1);
        x.pattern(0, 1, 0, -1);
        x.pattern(0, 1, 0, -2);
        due("eleven times eleven", -6, x::run);
        due("its work is not told", 0, () -> x.told(4));
        UpdateSteps y = new UpdateSteps();
        fill(y, 0, 1, 100);
        only(y, CHANGE, 0, 1);
        y.pattern(0, -1, -2, -3);
        due("100 facts", 0, y::run);
        due("100 solutions", 100, () -> y.solutions(0));
        put(y, 0, 0, 0, 0);
        only(y, CHANGE, 0, 1);
        y.pattern(0, -1, -2, -3);
        due("101 facts", -6, y::run);
        due("the run ended there", 0, y::fails);
        due("the one that is too many was found", 101, () -> y.solutions(0));
        only(y, CHANGE, 0, 1);
        y.pattern(0, 1, -2, -3);
        y.step(CHANGE, 0, 1);
        y.pattern(1, 1, -2, -3);
        due("100 in each of two steps", 0, y::run);
        only(y, CHANGE, 0, 1);
        y.pattern(0, 1, -2, -3);
        y.step(CHANGE, 0, 0);
        y.pattern(1, 1, 0, -3);
        y.template(1, 1, -2, -3, false);
        y.template(1, 1, 0, -3, false);
        due("ten solutions behind a hundred are no more than ten", 10, y::run);
        only(y, CHANGE, 0, 0);
        y.pattern(0, 1, -2, -3);
        y.template(0, 1, -2, -3, false);
        due("what is left goes", 90, y::run);
        due("but for what did not fit", "0,0,0", () -> facts(y, 0));
        UpdateSteps z = new UpdateSteps();
        fill(z, 0, 1, 100);
        only(z, CHANGE, 0, 0);
        z.pattern(0, -1, -2, -3);
        z.template(0, 2, -2, -3, true);
        z.template(0, -1, -2, -3, false);
        due("a hundred go, a hundred come", 200, z::run);
    }

    private static void silentPasses() {
        says("A SILENT step that has reason 1, 2 or 3 does nothing, and the next one follows");
        int[][] ways = {{MAKE, 0, 1, 1}, {CLEAR, 0, 2, 2}, {DROP, 0, 2, 2}, {COPY, 2, 1, 2}, {MOVE, 2, 1, 2},
            {ADD, 2, 1, 2}, {COPY, 2, 2, 2}, {READ, 0, 1, 3}, {READ, 0, 2, 3}};
        for (int[] way : ways) {
            UpdateSteps x = new UpdateSteps();
            x.file(0, 8, 8, 8);
            x.torn(0, true);
            put(x, 1, 1, 1, 1);
            only(x, way[0], way[1], way[2]);
            x.step(PUT, 0, 5);
            x.template(1, 5, 5, 5, true);
            due("not silent", -1 - way[3], x::run);
            due("it ended there", 0, x::fails);
            due("as it was", "0[] 1[1,1,1] 0", () -> store(x));
            due("made silent", false, () -> x.silent(0, true));
            due("the next one follows", 1, x::run);
            due("it went through", NONE, x::fails);
            due("and the silent one did nothing", "0[] 1[1,1,1] 5[5,5,5] 0", () -> store(x));
            due("not silent again", true, () -> x.silent(0, false));
            due("so it ends again", -1 - way[3], x::run);
        }
    }

    private static void silentDoesNothing() {
        says("A SILENT step that has reason 1, 2 or 3 does nothing: without a reason it does what it does");
        UpdateSteps x = new UpdateSteps();
        x.file(0, 8, 8, 8);
        x.step(MAKE, 0, 1);
        x.step(READ, 0, 2);
        x.step(COPY, 2, 3);
        x.step(MOVE, 3, 4);
        x.step(ADD, 4, 5);
        x.step(CLEAR, 0, 5);
        x.step(DROP, 0, 4);
        x.step(PUT, 0, 6);
        x.template(7, -11, 1, 1, true);
        x.step(CHANGE, 2, 6);
        x.pattern(8, -1, -1, -1);
        x.template(8, -1, 9, -1, true);
        x.step(TAKE, 0, 2);
        x.template(9, 8, 8, 8, false);
        for (int i = 0; i <= 9; i++) {
            x.silent(i, true);
        }
        due("all silent", 2, x::run);
        due("all done", "0[] 1[] 2[] 5[] 6[8,9,8 100,1,1] 1", () -> store(x));
    }

    private static void silentEndsForFourAndFive() {
        says("A SILENT step that has reason 1, 2 or 3: not 4 or 5");
        UpdateSteps x = new UpdateSteps();
        fill(x, 0, 1, 100);
        fill(x, 1, 2, 19);
        x.file(0, 7, 7, 7);
        x.file(0, 7, 7, 8);
        int[][] ways = {{PUT, 0, 2, 4}, {CHANGE, 0, 2, 5}, {COPY, 1, 2, 4}, {ADD, 1, 0, 4}, {READ, 0, 2, 4}};
        for (int[] way : ways) {
            only(x, way[0], way[1], way[2]);
            if (way[0] == PUT) {
                x.template(0, 7, 7, 7, true);
                x.template(0, 7, 7, 8, true);
            } else if (way[0] == CHANGE) {
                x.pattern(0, -1, -2, -3);
                x.pattern(0, -1, -2, -3);
            }
            x.silent(0, true);
            x.step(PUT, 0, 5);
            due("silent, kind " + way[0], -1 - way[3], x::run);
            due("it ended there", 0, x::fails);
            due("nothing came", 119, () -> x.told(1));
            due("no graph either", NONE, () -> x.many(2));
        }
    }

    private static void files() {
        says("FILES 0 .. 3 have rows, at most 10, of names, and may be TORN");
        UpdateSteps x = new UpdateSteps();
        for (int i : new int[] {LOW, -1, 4, FAR}) {
            due("rows of file " + i, OUT, () -> x.file(i, 1, 1, 1));
            due("file " + i + " torn", OUT, () -> x.torn(i, true));
        }
        for (int i = 0; i <= 3; i++) {
            int file = i;
            for (int wrong : new int[] {LOW, -11, -1, 100, FAR}) {
                due("subject " + wrong, ARGUMENT, () -> x.file(file, wrong, 1, 1));
                due("property " + wrong, ARGUMENT, () -> x.file(file, 1, wrong, 1));
                due("object " + wrong, ARGUMENT, () -> x.file(file, 1, 1, wrong));
            }
            for (int j = 1; j <= 10; j++) {
                int row = j;
                due("row of file " + file, row, () -> x.file(file, row == 1 ? 0 : 99, row, row == 1 ? 99 : 0));
            }
            due("an eleventh", STATE, () -> x.file(file, 5, 5, 5));
            only(x, READ, file, file);
            due("ten come", 10, x::run);
            due("torn", false, () -> x.torn(file, true));
            due("torn still", true, () -> x.torn(file, true));
        }
    }

    private static void refusedCallsChangeNothing() {
        says("A call that throws changes nothing");
        UpdateSteps x = grown();
        UpdateSteps y = grown();
        refuseSteps(x);
        refuseRows(x);
        refuseQuestions(x);
        due("what is told", toldOf(y), () -> toldOf(x));
        due("what the steps do", 7, y::run);
        due("what they do in spite of refused calls", 7, x::run);
        due("what is told behind that", toldOf(y), () -> toldOf(x));
        due("rows of a template", y.template(10, 1, 1, 1, true), () -> x.template(10, 1, 1, 1, true));
        due("rows of a pattern", y.pattern(10, 1, 1, 1), () -> x.pattern(10, 1, 1, 1));
        due("rows of a file", y.file(1, 1, 1, 1), () -> x.file(1, 1, 1, 1));
        due("a file that is torn", y.torn(1, true), () -> x.torn(1, true));
        due("one that is not", y.torn(0, true), () -> x.torn(0, true));
    }

    /** A full sequence, a full file, a torn one, and a run that went through. */
    private static UpdateSteps grown() {
        UpdateSteps x = new UpdateSteps();
        put(x, 0, 1, 1, 1);
        for (int i = 0; i < 10; i++) {
            x.file(0, i, 2, i);
        }
        x.file(1, 6, 6, 6);
        x.torn(1, true);
        for (int i = 0; i < 10; i++) {
            x.step(i, 0, 1);
            x.silent(i, true);
        }
        x.step(CHANGE, 0, 2);
        x.step(CHANGE, 1, 3);
        for (int i = 0; i < 6; i++) {
            x.template(11, -1, i, -11 - i % 3, true);
        }
        for (int i = 0; i < 4; i++) {
            x.pattern(11, -1, 2, 5);
        }
        x.run();
        return x;
    }

    private static String toldOf(UpdateSteps x) {
        StringBuilder text = new StringBuilder(store(x));
        text.append(" / ").append(changes(x)).append(" / ").append(x.fails());
        for (int what = 0; what <= 4; what++) {
            text.append(' ').append(x.told(what));
        }
        for (int step = 0; step < x.told(0); step++) {
            text.append(' ').append(x.solutions(step));
        }
        return text.toString();
    }

    private static void refuseSteps(UpdateSteps x) {
        due("a thirteenth step", STATE, () -> x.step(PUT, 0, 0));
        due("no kind", ARGUMENT, () -> x.step(10, 0, 0));
        due("no FROM", ARGUMENT, () -> x.step(CHANGE, 7, 0));
        due("no TO", ARGUMENT, () -> x.step(CHANGE, 0, 7));
        due("silent, no step", OUT, () -> x.silent(12, false));
        due("silent, no step", OUT, () -> x.silent(-1, false));
        due("torn, no file", OUT, () -> x.torn(4, false));
        due("torn, no file", OUT, () -> x.torn(-1, false));
    }

    private static void refuseRows(UpdateSteps x) {
        due("template, no step", OUT, () -> x.template(12, 9, 9, 9, true));
        due("template, no row of this kind", ARGUMENT, () -> x.template(CLEAR, 9, 9, 9, true));
        due("template that takes away in a PUT", ARGUMENT, () -> x.template(PUT, 9, 9, 9, false));
        due("template that adds in a TAKE", ARGUMENT, () -> x.template(TAKE, 9, 9, 9, true));
        due("template, no subject", ARGUMENT, () -> x.template(10, 100, 9, 9, true));
        due("template, no property", ARGUMENT, () -> x.template(10, 9, -11, 9, true));
        due("template, no object", ARGUMENT, () -> x.template(10, 9, 9, -5, true));
        due("a seventh template", STATE, () -> x.template(11, 9, 9, 9, true));
        due("a seventh template", STATE, () -> x.template(11, -1, 5, -2, false));
        due("pattern, no step", OUT, () -> x.pattern(12, 9, 9, 9));
        due("pattern, no row of this kind", ARGUMENT, () -> x.pattern(PUT, 9, 9, 9));
        due("pattern, no subject", ARGUMENT, () -> x.pattern(10, -11, 9, 9));
        due("pattern, no property", ARGUMENT, () -> x.pattern(10, 9, 100, 9));
        due("pattern, no object", ARGUMENT, () -> x.pattern(10, 9, 9, -5));
        due("a fifth row", STATE, () -> x.pattern(11, 9, 9, 9));
        due("no file", OUT, () -> x.file(4, 9, 9, 9));
        due("file, no subject", ARGUMENT, () -> x.file(1, 100, 9, 9));
        due("file, no property", ARGUMENT, () -> x.file(1, 9, -1, 9));
        due("file, no object", ARGUMENT, () -> x.file(1, 9, 9, 100));
        due("an eleventh row", STATE, () -> x.file(0, 9, 9, 9));
    }

    private static void refuseQuestions(UpdateSteps x) {
        due("many", OUT, () -> x.many(7));
        due("at, no graph", OUT, () -> x.at(7, 0, 0));
        due("at, no fact", OUT, () -> x.at(1, 99, 0));
        due("at, no what", ARGUMENT, () -> x.at(1, 0, 3));
        due("has", OUT, () -> x.has(7, 1, 1, 1));
        due("changed, no change", OUT, () -> x.changed(999, 0));
        due("changed, no what", ARGUMENT, () -> x.changed(0, 5));
        due("solutions", OUT, () -> x.solutions(12));
        due("told", ARGUMENT, () -> x.told(5));
    }

    private static void callsOfOneObject() {
        says("An object is used for at most 512 calls after it has been made");
        UpdateSteps x = new UpdateSteps();
        x.step(CHANGE, 0, 0);
        x.template(0, -11, 1, 1, true);
        x.template(0, 2, 2, 2, true);
        x.template(0, 2, 2, 2, false);
        for (int i = 0; i < 60; i++) {
            x.run();
        }
        for (int i = 64; i < 511; i++) {
            due("all sixty blanks are used", -5, x::run);
        }
        due("the 512th call", 60, () -> x.told(2));
    }
}
