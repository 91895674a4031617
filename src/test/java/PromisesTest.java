/** Each promise of the document: ordinary inputs, the edges it names, wrong inputs. */
public final class PromisesTest extends Scene {
    private static final Check CHECK = new Check();

    public static void main(String[] args) {
        newObject();
        steps();
        silentFlags();
        templates();
        templateTerms();
        patterns();
        files();
        tornFlags();
        runPutAndTake();
        runChange();
        runLeftOutRows();
        runLongPatterns();
        runSolutionOrder();
        runGraphKinds();
        runAllAndNamed();
        runBringing();
        runBringingInPlace();
        runReading();
        runGivesBack();
        runSilent();
        runRoomForFacts();
        runRoomForBringing();
        runRoomForBlanks();
        runWorkAndSolutionLimits();
        fails();
        clears();
        many();
        at();
        has();
        changed();
        changedOrder();
        solutions();
        told();
        CHECK.end("PromisesTest");
    }

    private static void due(String what, Object want, Check.Call call) {
        CHECK.due(what, want, call);
    }

    private static void newObject() {
        UpdateSteps x = new UpdateSteps();
        due("1 the default graph", 0, () -> x.many(0));
        for (int i = 1; i <= 6; i++) {
            int graph = i;
            due("1 graph " + graph, -1, () -> x.many(graph));
        }
        for (int i = 0; i <= 4; i++) {
            int what = i;
            due("1 told " + what, 0, () -> x.told(what));
        }
        for (int i = 0; i <= 3; i++) {
            int file = i;
            due("1 no rows", 1, () -> x.file(file, 0, 0, 0));
            due("1 not torn", false, () -> x.torn(file, false));
        }
        due("1 fails", -1, x::fails);
        due("1 no step", OUT, () -> x.silent(0, true));
        due("1 no change", OUT, () -> x.changed(0, 0));
        due("1 run", 0, x::run);
        due("1 clear", 0, x::clear);
    }

    private static void steps() {
        UpdateSteps x = new UpdateSteps();
        due("2 kind -1", ARGUMENT, () -> x.step(-1, 0, 0));
        due("2 kind 10", ARGUMENT, () -> x.step(10, 0, 0));
        for (int i = 0; i <= 9; i++) {
            int kind = i;
            boolean counts = kind == CHANGE || kind >= COPY;
            int high = kind == READ ? 3 : 6;
            UpdateSteps y = new UpdateSteps();
            due("2 from " + high, 0, () -> y.step(kind, high, 1));
            due("2 from 0", 1, () -> y.step(kind, 0, 6));
            due("2 from above, kind " + kind, counts ? ARGUMENT : 2, () -> y.step(kind, high + 1, 1));
            due("2 from below, kind " + kind, counts ? ARGUMENT : 3, () -> y.step(kind, -1, 1));
            boolean takes = kind == CLEAR || kind == DROP;
            UpdateSteps z = new UpdateSteps();
            due("2 to ALL, kind " + kind, takes ? 0 : ARGUMENT, () -> z.step(kind, 0, ALL));
            due("2 to NAMED, kind " + kind, takes ? 1 : ARGUMENT, () -> z.step(kind, 0, NAMED));
            due("2 to -3, kind " + kind, ARGUMENT, () -> z.step(kind, 0, -3));
            due("2 to 7, kind " + kind, ARGUMENT, () -> z.step(kind, 0, 7));
            due("2 to 0, kind " + kind, kind == MAKE ? ARGUMENT : takes ? 2 : 0, () -> z.step(kind, 0, 0));
        }
        for (int i = 0; i < 12; i++) {
            due("2 number", i, () -> x.step(PUT, LOW, 0));
        }
        due("2 a thirteenth", STATE, () -> x.step(PUT, 0, 0));
        due("2 the argument first", ARGUMENT, () -> x.step(PUT, 0, 7));
        due("2 still twelve", 12, () -> x.told(0));
        due("2 a FROM that is no graph does not count", 0, x::run);
    }

    private static void silentFlags() {
        UpdateSteps x = new UpdateSteps();
        x.step(MAKE, 0, 1);
        due("3 at first", false, () -> x.silent(0, false));
        due("3 on", false, () -> x.silent(0, true));
        due("3 still on", true, () -> x.silent(0, true));
        due("3 off", true, () -> x.silent(0, false));
        due("3 below", OUT, () -> x.silent(-1, true));
        due("3 above", OUT, () -> x.silent(1, true));
        x.silent(0, true);
        x.clear();
        due("3 cleared", OUT, () -> x.silent(0, true));
        x.step(MAKE, 0, 1);
        due("3 a new step", false, () -> x.silent(0, true));
    }

    private static void templates() {
        UpdateSteps x = new UpdateSteps();
        due("4 no step", OUT, () -> x.template(0, 1, 1, 1, true));
        for (int kind = 0; kind <= 9; kind++) {
            x.step(kind, 0, 1);
        }
        for (int i = CLEAR; i <= READ; i++) {
            int kind = i;
            due("4 kind " + kind, ARGUMENT, () -> x.template(kind, 1, 1, 1, true));
            due("4 kind " + kind, ARGUMENT, () -> x.template(kind, 1, 1, 1, false));
        }
        due("4 PUT takes away", ARGUMENT, () -> x.template(PUT, 1, 1, 1, false));
        due("4 TAKE adds", ARGUMENT, () -> x.template(TAKE, 1, 1, 1, true));
        due("4 below", OUT, () -> x.template(-1, 1, 1, 1, true));
        due("4 above, with a wrong term", OUT, () -> x.template(10, LOW, 1, 1, true));
        for (int i = 1; i <= 6; i++) {
            boolean adds = i % 2 == 0;
            due("4 PUT", i, () -> x.template(PUT, 1, 1, 1, true));
            due("4 TAKE", i, () -> x.template(TAKE, 1, 1, 1, false));
            due("4 CHANGE", i, () -> x.template(CHANGE, 1, 1, 1, adds));
        }
        due("4 a seventh that adds", STATE, () -> x.template(CHANGE, 1, 1, 1, true));
        due("4 a seventh that takes away", STATE, () -> x.template(CHANGE, 1, 1, 1, false));
        due("4 the argument first", ARGUMENT, () -> x.template(CHANGE, 100, 1, 1, true));
        due("4 the kind first", ARGUMENT, () -> x.template(PUT, 1, 1, 1, false));
        x.clear();
        x.step(PUT, 0, 0);
        due("4 a new step has none", 1, () -> x.template(0, 5, 5, 5, true));
        due("4 only the new row comes", 1, x::run);
    }

    private static void templateTerms() {
        int[] terms = {0, 99, -1, -4, -11, -14, 100, -5, -10, -15, FAR, LOW};
        for (int place = 0; place < 3; place++) {
            for (int term : terms) {
                boolean isName = term >= 0 && term <= 99;
                boolean isVariable = term <= -1 && term >= -4;
                boolean isNew = term <= -11 && term >= -14 && place != 1;
                termDue(PUT, true, place, term, isName || isNew);
                termDue(TAKE, false, place, term, isName);
                termDue(CHANGE, true, place, term, isName || isVariable || isNew);
                termDue(CHANGE, false, place, term, isName || isVariable);
            }
        }
    }

    private static void termDue(int kind, boolean adds, int place, int term, boolean may) {
        UpdateSteps x = new UpdateSteps();
        x.step(kind, 0, 0);
        int[] row = {1, 1, 1};
        row[place] = term;
        due("4 kind " + kind + ", adds " + adds + ", term " + term + " at " + place, may ? 1 : ARGUMENT,
                () -> x.template(0, row[0], row[1], row[2], adds));
        due("4 what was refused is not there", may ? 2 : 1, () -> x.template(0, 1, 1, 1, adds));
    }

    private static void patterns() {
        UpdateSteps x = new UpdateSteps();
        due("5 no step", OUT, () -> x.pattern(0, 1, 1, 1));
        for (int i = 0; i <= 9; i++) {
            int kind = i;
            x.step(kind, 0, 1);
            due("5 kind " + kind, kind == CHANGE ? 1 : ARGUMENT, () -> x.pattern(kind, -1, 0, 99));
        }
        due("5 below", OUT, () -> x.pattern(-1, LOW, 1, 1));
        due("5 above", OUT, () -> x.pattern(10, 1, 1, 1));
        for (int wrong : new int[] {-5, -11, -14, 100, FAR, LOW}) {
            due("5 subject " + wrong, ARGUMENT, () -> x.pattern(CHANGE, wrong, 1, 1));
            due("5 property " + wrong, ARGUMENT, () -> x.pattern(CHANGE, 1, wrong, 1));
            due("5 object " + wrong, ARGUMENT, () -> x.pattern(CHANGE, 1, 1, wrong));
        }
        due("5 variables", 2, () -> x.pattern(CHANGE, -1, -4, -2));
        due("5 third", 3, () -> x.pattern(CHANGE, -4, -3, -1));
        due("5 fourth", 4, () -> x.pattern(CHANGE, 0, 0, 0));
        due("5 a fifth", STATE, () -> x.pattern(CHANGE, 1, 1, 1));
        due("5 the argument first", ARGUMENT, () -> x.pattern(CHANGE, 1, 1, 100));
        x.clear();
        x.step(CHANGE, 0, 0);
        due("5 a new step has none", 1, () -> x.pattern(0, 1, 1, 1));
    }

    private static void files() {
        UpdateSteps x = new UpdateSteps();
        due("6 below", OUT, () -> x.file(-1, LOW, 0, 0));
        due("6 above", OUT, () -> x.file(4, 0, 0, 0));
        for (int wrong : new int[] {-1, -11, 100, FAR, LOW}) {
            due("6 subject " + wrong, ARGUMENT, () -> x.file(3, wrong, 0, 0));
            due("6 property " + wrong, ARGUMENT, () -> x.file(3, 0, wrong, 0));
            due("6 object " + wrong, ARGUMENT, () -> x.file(3, 0, 0, wrong));
        }
        for (int i = 1; i <= 10; i++) {
            due("6 row", i, () -> x.file(3, 0, 99, 0));
        }
        due("6 an eleventh", STATE, () -> x.file(3, 0, 0, 0));
        due("6 the argument first", ARGUMENT, () -> x.file(3, 0, 0, 100));
        due("6 another file", 1, () -> x.file(0, 0, 0, 0));
        x.clear();
        due("6 files stay when steps go", 2, () -> x.file(0, 0, 0, 0));
        x.torn(0, true);
        due("6 a torn file gets rows, too", 3, () -> x.file(0, 1, 0, 0));
    }

    private static void tornFlags() {
        UpdateSteps x = new UpdateSteps();
        due("7 on", false, () -> x.torn(3, true));
        due("7 still on", true, () -> x.torn(3, true));
        due("7 another", false, () -> x.torn(0, true));
        due("7 off", true, () -> x.torn(3, false));
        due("7 was off", false, () -> x.torn(3, false));
        due("7 below", OUT, () -> x.torn(-1, true));
        due("7 above", OUT, () -> x.torn(4, true));
    }

    private static void runPutAndTake() {
        UpdateSteps x = new UpdateSteps();
        x.step(PUT, 0, 2);
        due("8 PUT without rows", 0, x::run);
        due("8 makes no graph", -1, () -> x.many(2));
        x.template(0, -12, 1, -11, true);
        x.template(0, -11, 1, -12, true);
        x.template(0, -14, 2, -14, true);
        due("8 PUT with blanks", 3, x::run);
        due("8 subject before object, one for each mark", "100,1,101 101,1,100 102,2,102", () -> facts(x, 2));
        due("8 PUT again: other blanks", 3, x::run);
        due("8 six blanks", 6, () -> x.told(2));
        x.clear();
        x.step(TAKE, 0, 5);
        x.template(0, 1, 1, 1, false);
        due("8 TAKE where there is no graph", 0, x::run);
        due("8 makes none", -1, () -> x.many(5));
        x.clear();
        put(x, 5, 1, 1, 1);
        put(x, 5, 1, 1, 2);
        x.step(TAKE, 0, 5);
        x.template(0, 1, 1, 1, false);
        x.template(0, 9, 9, 9, false);
        x.template(0, 1, 1, 1, false);
        due("8 TAKE", 1, x::run);
        due("8 the other stays", "1,1,2", () -> facts(x, 5));
        x.template(0, 1, 1, 2, false);
        x.template(0, 1, 1, 2, false);
        x.run();
        due("8 an empty graph stays", 0, () -> x.many(5));
        UpdateSteps y = new UpdateSteps();
        fill(y, 0, 1, 100);
        fill(y, 0, 2, 20);
        y.step(TAKE, 0, 0);
        y.template(0, 1, 0, 0, false);
        y.template(0, 3, 0, 0, false);
        due("8 TAKE out of a full graph", 1, y::run);
        due("8 the first now", 1, () -> y.at(0, 0, 2));
    }

    private static void runChange() {
        UpdateSteps x = new UpdateSteps();
        put(x, 0, 1, 5, 2);
        put(x, 0, 2, 5, 3);
        put(x, 0, 3, 6, 3);
        x.step(CHANGE, 0, 0);
        x.pattern(0, -1, 5, -2);
        x.template(0, -2, 5, -1, true);
        x.template(0, -1, 5, -2, false);
        due("8 all that goes, goes before what comes", 4, x::run);
        due("8 turned round", "2,5,1 3,5,2 3,6,3", () -> facts(x, 0));
        x.clear();
        x.step(CHANGE, 0, 4);
        x.pattern(0, -1, -2, -1);
        x.template(0, -1, 1, -11, true);
        x.template(0, -11, 1, -2, true);
        due("8 one variable twice in a row", 2, x::run);
        due("8 into another graph", "3,1,100 100,1,6", () -> facts(x, 4));
        x.clear();
        x.step(CHANGE, 0, 6);
        x.pattern(0, -1, -2, -3);
        x.template(0, -1, 0, -3, false);
        due("8 taking away where there is no graph", 0, x::run);
        due("8 makes none", -1, () -> x.many(6));
        x.template(0, 7, 7, -4, true);
        due("8 a row without a value", 0, x::run);
        due("8 makes no graph", -1, () -> x.many(6));
        x.clear();
        x.step(CHANGE, 0, 6);
        x.template(0, 7, 7, -11, true);
        due("8 without a pattern there is one solution", 1, x::run);
        due("8 with its blank", "7,7,101", () -> facts(x, 6));
        x.clear();
        x.step(CHANGE, 0, 6);
        x.pattern(0, 50, 50, 50);
        x.template(0, 8, 8, 8, true);
        due("8 no solution, no row", 0, x::run);
    }

    private static void runLeftOutRows() {
        UpdateSteps x = new UpdateSteps();
        put(x, 1, 1, 5, -11);
        put(x, 1, 2, 5, 6);
        x.step(CHANGE, 1, 2);
        x.pattern(0, -1, 5, -2);
        x.template(0, -12, -2, -11, true);
        x.template(0, -11, 9, -3, true);
        x.template(0, -13, 9, -11, true);
        due("8 a blank is no property", 3, x::run);
        due("8 rows that are left out make no blanks", "101,9,102 103,6,104 105,9,104", () -> facts(x, 2));
        due("8 blanks", 6, () -> x.told(2));
        x.clear();
        x.step(CHANGE, 1, 1);
        x.pattern(0, 1, 5, -2);
        x.template(0, 1, -2, 6, false);
        x.template(0, -4, 5, 6, false);
        x.template(0, 1, 5, -2, false);
        due("8 rows that take away are left out, too", 1, x::run);
        due("8 a blank goes", "2,5,6", () -> facts(x, 1));
    }

    private static void runLongPatterns() {
        UpdateSteps x = new UpdateSteps();
        put(x, 0, 1, 5, 2);
        put(x, 0, 2, 5, 3);
        put(x, 0, 3, 6, 4);
        put(x, 0, 4, 6, 1);
        put(x, 0, 4, 6, 2);
        x.step(CHANGE, 0, 0);
        x.pattern(0, -1, 5, -2);
        x.pattern(0, -2, -4, -3);
        x.pattern(0, -3, 6, 4);
        x.pattern(0, 4, 6, -1);
        x.template(0, -1, -4, -3, true);
        x.template(0, 4, 6, -1, false);
        due("8 a ring of four rows", 2, x::run);
        due("8 one solution", 1, () -> x.solutions(0));
        due("8 work", 5 + 2 * 5 + 2 * 5 + 5, () -> x.told(4));
        due("8 what came", true, () -> x.has(0, 1, 5, 3));
        due("8 what went", false, () -> x.has(0, 4, 6, 1));
        x.clear();
        x.step(CHANGE, 0, 0);
        x.pattern(0, -1, 5, -2);
        x.step(CHANGE, 0, 0);
        x.pattern(1, -1, 6, 4);
        x.template(1, -1, 5, -2, false);
        x.template(1, -1, 6, 4, false);
        due("8 values are not those of an earlier step", 1, x::run);
    }

    private static void runSolutionOrder() {
        UpdateSteps x = new UpdateSteps();
        put(x, 0, 3, 1, 1);
        put(x, 0, 2, 1, 2);
        put(x, 0, 2, 0, 9);
        put(x, 0, 1, 1, 30);
        x.step(CHANGE, 0, 1);
        x.pattern(0, -1, 1, -2);
        x.pattern(0, -3, 1, -4);
        x.template(0, -11, -1, -3, true);
        due("8 nine solutions", 9, x::run);
        due("8 by the first row, then by the second",
                "100,1,1 101,1,2 102,1,3 103,2,1 104,2,2 105,2,3 106,3,1 107,3,2 108,3,3", () -> facts(x, 1));
        x.clear();
        x.step(CHANGE, 0, 2);
        x.pattern(0, -1, -2, -3);
        x.template(0, -11, -2, -1, true);
        x.run();
        due("8 by subject, property, object", "109,1,1 110,0,2 111,1,2 112,1,3", () -> facts(x, 2));
    }

    private static void runGraphKinds() {
        UpdateSteps x = new UpdateSteps();
        x.step(MAKE, 0, 3);
        due("8 MAKE", 0, x::run);
        due("8 without facts", 0, () -> x.many(3));
        due("8 MAKE what is there", -2, x::run);
        x.clear();
        put(x, 3, 1, 1, 1);
        put(x, 0, 2, 2, 2);
        x.step(CLEAR, 0, 3);
        due("8 CLEAR", 1, x::run);
        due("8 the graph stays", 0, () -> x.many(3));
        due("8 CLEAR an empty one", 0, x::run);
        x.clear();
        x.step(DROP, 0, 3);
        due("8 DROP", 0, x::run);
        due("8 the graph is gone", -1, () -> x.many(3));
        due("8 DROP what is not there", -3, x::run);
        x.clear();
        x.step(CLEAR, 0, 3);
        due("8 CLEAR what is not there", -3, x::run);
        x.clear();
        x.step(DROP, 0, 0);
        due("8 DROP the default graph", 1, x::run);
        due("8 it stays", 0, () -> x.many(0));
        due("8 and again", 0, x::run);
    }

    private static void runAllAndNamed() {
        for (int kind : new int[] {CLEAR, DROP}) {
            for (int to : new int[] {ALL, NAMED}) {
                UpdateSteps x = new UpdateSteps();
                x.step(kind, 0, to);
                due("8 none is there", 0, x::run);
                x.clear();
                put(x, 0, 1, 1, 1);
                put(x, 1, 1, 1, 1);
                put(x, 6, 1, 1, 1);
                x.step(kind, 0, to);
                due("8 many at once", to == ALL ? 3 : 2, x::run);
                due("8 the default one", to == ALL ? 0 : 1, () -> x.many(0));
                due("8 the first", kind == DROP ? -1 : 0, () -> x.many(1));
                due("8 the last", kind == DROP ? -1 : 0, () -> x.many(6));
                due("8 none is made", -1, () -> x.many(3));
            }
        }
    }

    private static void runBringing() {
        for (int kind : new int[] {COPY, MOVE, ADD}) {
            UpdateSteps x = new UpdateSteps();
            x.step(kind, 2, 3);
            due("8 FROM is not there", -3, x::run);
            x.clear();
            put(x, 2, 1, 1, 1);
            put(x, 2, 3, 1, 1);
            put(x, 3, 1, 1, 1);
            put(x, 3, 2, 1, 1);
            x.step(kind, 2, 3);
            due("8 changes of " + kind, kind == COPY ? 2 : kind == MOVE ? 4 : 1, x::run);
            due("8 TO", kind == ADD ? "1,1,1 2,1,1 3,1,1" : "1,1,1 3,1,1", () -> facts(x, 3));
            due("8 FROM", kind == MOVE ? -1 : 2, () -> x.many(2));
            x.clear();
            x.step(MAKE, 0, 5);
            x.step(kind, 5, 6);
            due("8 FROM without facts", 0, x::run);
            due("8 makes TO", 0, () -> x.many(6));
            due("8 FROM then", kind == MOVE ? -1 : 0, () -> x.many(5));
            x.clear();
            put(x, 0, 9, 9, 9);
            x.step(kind, 0, 4);
            due("8 from the default graph", kind == MOVE ? 2 : 1, x::run);
            due("8 which stays", kind == MOVE ? 0 : 1, () -> x.many(0));
            due("8 TO is made", "9,9,9", () -> facts(x, 4));
        }
    }

    private static void runBringingInPlace() {
        for (int kind : new int[] {COPY, MOVE, ADD}) {
            UpdateSteps x = new UpdateSteps();
            x.step(kind, 2, 2);
            due("8 FROM as TO, not there", -3, x::run);
            due("8 is not made", -1, () -> x.many(2));
            x.clear();
            put(x, 2, 1, 1, 1);
            put(x, 0, 1, 1, 1);
            x.step(kind, 2, 2);
            x.step(kind, 0, 0);
            due("8 FROM as TO", 0, x::run);
            due("8 stays", "1,1,1", () -> facts(x, 2));
            due("8 the default one, too", "1,1,1", () -> facts(x, 0));
        }
    }

    private static void runReading() {
        UpdateSteps x = new UpdateSteps();
        x.step(READ, 3, 4);
        due("8 READ a file without rows", 0, x::run);
        due("8 makes TO", 0, () -> x.many(4));
        x.file(3, 2, 2, 2);
        x.file(3, 1, 1, 1);
        x.file(3, 2, 2, 2);
        due("8 READ", 2, x::run);
        due("8 READ again", 0, x::run);
        due("8 rows", "1,1,1 2,2,2", () -> facts(x, 4));
        x.torn(3, true);
        due("8 READ a torn one", -4, x::run);
        x.torn(2, true);
        x.torn(3, false);
        due("8 another one is torn", 0, x::run);
    }

    private static void runGivesBack() {
        UpdateSteps x = new UpdateSteps();
        put(x, 1, 1, 1, -11);
        put(x, 0, 4, 4, 4);
        x.step(PUT, 0, 2);
        x.template(0, -11, 1, -12, true);
        x.step(MOVE, 1, 3);
        x.step(DROP, 0, ALL);
        x.step(CLEAR, 0, 6);
        due("8 the fourth step can't be done", -3, x::run);
        due("8 blanks as before", 1, () -> x.told(2));
        due("8 facts as before", 2, () -> x.told(1));
        due("8 graph 0", "4,4,4", () -> facts(x, 0));
        due("8 graph 1", "1,1,100", () -> facts(x, 1));
        due("8 graph 2", -1, () -> x.many(2));
        due("8 graph 3", -1, () -> x.many(3));
        due("8 changes are those of before", "+0,4,4,4", () -> changes(x));
        due("8 the sequence stays", 4, () -> x.told(0));
        x.silent(3, true);
        due("8 now it goes through", 2, x::run);
        due("8 blanks are made in order", 3, () -> x.told(2));
    }

    private static void runSilent() {
        UpdateSteps x = new UpdateSteps();
        x.file(0, 1, 1, 1);
        x.torn(0, true);
        x.step(MAKE, 0, 1);
        x.step(MAKE, 0, 1);
        x.step(CLEAR, 0, 2);
        x.step(DROP, 0, 2);
        x.step(COPY, 2, 1);
        x.step(MOVE, 2, 3);
        x.step(ADD, 2, 2);
        x.step(READ, 0, 4);
        x.step(PUT, 0, 5);
        x.template(8, 5, 5, 5, true);
        for (int i = 1; i <= 7; i++) {
            int step = i;
            int reason = i == 1 ? 1 : i == 7 ? 3 : 2;
            due("8 not silent", -1 - reason, x::run);
            due("8 ends there", step, x::fails);
            x.silent(step, true);
        }
        due("8 all are silent", 1, x::run);
        for (int graph = 2; graph <= 4; graph++) {
            int none = graph;
            due("8 nothing was done", -1, () -> x.many(none));
        }
        due("8 the next one followed", "5,5,5", () -> facts(x, 5));
    }

    private static void runRoomForFacts() {
        UpdateSteps x = new UpdateSteps();
        fill(x, 0, 1, 60);
        fill(x, 1, 2, 59);
        x.step(PUT, 0, 2);
        x.template(0, 3, 3, 3, true);
        due("8 the 120th fact", 1, x::run);
        due("8 all facts", 120, () -> x.told(1));
        due("8 a fact that is there takes no room", 0, x::run);
        x.template(0, 3, 3, 4, true);
        due("8 the 121st", -5, x::run);
        x.silent(0, true);
        due("8 silent or not", -5, x::run);
        due("8 told", 120, () -> x.told(1));
        x.clear();
        x.file(0, 3, 3, 3);
        x.step(READ, 0, 2);
        due("8 READ what is there", 0, x::run);
        x.file(0, 9, 9, 9);
        due("8 READ one more", -5, x::run);
        x.clear();
        x.step(CHANGE, 0, 0);
        x.pattern(0, 1, 0, -1);
        x.template(0, 50, 0, -1, true);
        x.template(0, 1, 0, -1, false);
        due("8 what goes makes room", 20, x::run);
        x.clear();
        x.step(PUT, 0, 2);
        x.template(0, 4, 4, 4, true);
        x.step(DROP, 0, 0);
        due("8 room that a later step would make", -5, x::run);
    }

    private static void runRoomForBringing() {
        UpdateSteps x = new UpdateSteps();
        fill(x, 0, 1, 40);
        fill(x, 1, 2, 40);
        fill(x, 2, 2, 1);
        x.step(COPY, 0, 3);
        due("8 COPY: one too many", -5, x::run);
        x.clear();
        x.step(ADD, 0, 3);
        due("8 ADD: one too many", -5, x::run);
        x.clear();
        x.step(ADD, 1, 2);
        due("8 ADD: what is there takes no room", 39, x::run);
        due("8 full", 120, () -> x.told(1));
        x.clear();
        x.step(COPY, 0, 1);
        due("8 COPY in a full store", 80, x::run);
        x.clear();
        x.step(COPY, 2, 1);
        due("8 COPY back", 80, x::run);
        x.clear();
        x.step(MOVE, 0, 3);
        x.step(MOVE, 3, 0);
        x.step(MOVE, 0, 4);
        due("8 MOVE in a full store", 80, x::run);
        x.clear();
        x.step(ADD, 1, 2);
        due("8 ADD what is there", 0, x::run);
    }

    private static void runRoomForBlanks() {
        UpdateSteps x = new UpdateSteps();
        x.step(PUT, 0, 0);
        x.template(0, -11, 1, -12, true);
        x.template(0, -13, 1, -14, true);
        for (int i = 0; i < 14; i++) {
            due("8 four blanks", 2, x::run);
        }
        x.clear();
        x.step(PUT, 0, 1);
        x.template(0, -11, 1, -12, true);
        x.template(0, -13, 1, 1, true);
        due("8 three more", 2, x::run);
        due("8 a sixtieth alone is there", -5, x::run);
        due("8 none of it was made", 59, () -> x.told(2));
        x.clear();
        x.step(PUT, 0, 1);
        x.template(0, 1, 1, -14, true);
        due("8 the sixtieth", 1, x::run);
        due("8 its number", true, () -> x.has(1, 1, 1, 159));
        due("8 a 61st", -5, x::run);
        x.silent(0, true);
        due("8 silent or not", -5, x::run);
        x.clear();
        x.step(DROP, 0, ALL);
        x.step(PUT, 0, 1);
        x.template(1, 1, 1, -11, true);
        due("8 numbers do not come back", -5, x::run);
    }

    private static void runWorkAndSolutionLimits() {
        UpdateSteps x = new UpdateSteps();
        fill(x, 0, 1, 100);
        x.step(CHANGE, 0, 6);
        x.pattern(0, -1, -2, -3);
        due("8 a hundred solutions", 0, x::run);
        due("15 a hundred", 100, () -> x.solutions(0));
        x.clear();
        put(x, 0, 2, 2, 2);
        x.step(CHANGE, 0, 6);
        x.pattern(0, -1, -2, -3);
        due("8 one more", -6, x::run);
        due("15 the one that was too many was found", 101, () -> x.solutions(0));
        x.silent(0, true);
        due("8 silent or not", -6, x::run);
        x.clear();

        UpdateSteps y = new UpdateSteps();
        fill(y, 0, 1, 49);
        fill(y, 0, 2, 51);
        heavyStep(y, 0);
        due("8 5000 work", 0, y::run);
        due("16 work", 5000, () -> y.told(4));
        heavyStep(y, 0);
        due("8 the limit is a step's", 0, y::run);
        due("16 work of all steps", 10000, () -> y.told(4));
        y.clear();
        fill(y, 0, 3, 1);
        heavyStep(y, 0);
        due("8 more than 5000 work", -6, y::run);
        due("16 no work", 0, () -> y.told(4));
        y.clear();
        fill(y, 0, 3, 10);
        heavyStep(y, 3);
        due("8 more than 5000 work earlier", -6, y::run);
        due("15 with 5000 work one was found", 46, () -> y.solutions(0));
        due("9 it ended there", 0, y::fails);
        y.clear();
        heavyStep(y, 4);
        due("8 the same work", -6, y::run);
        due("15 with 5001 work one would be found", 45, () -> y.solutions(0));
    }

    /**
     * 49 facts fit the first row, one the second: with 100 facts 100 work and 49 times 100; with 110 facts 111 work
     * for each that fits the first row, so that 5000 work ends at the fourth fact of the 46th.
     */
    private static void heavyStep(UpdateSteps x, int object) {
        int step = x.step(CHANGE, 0, 6);
        x.pattern(step, 1, -1, -2);
        x.pattern(step, 1, 0, object);
    }

    private static void fails() {
        UpdateSteps x = new UpdateSteps();
        due("9 no run", -1, x::fails);
        x.step(PUT, 0, 0);
        x.step(CLEAR, 0, 1);
        x.step(CLEAR, 0, 2);
        x.run();
        due("9 the first that can't be done", 1, x::fails);
        x.silent(1, true);
        x.run();
        due("9 the next", 2, x::fails);
        due("9 clear", 3, x::clear);
        due("9 told still", 2, x::fails);
        x.run();
        due("9 it went through", -1, x::fails);
    }

    private static void clears() {
        UpdateSteps x = new UpdateSteps();
        due("10 none", 0, x::clear);
        x.step(CHANGE, 0, 1);
        x.pattern(0, 1, 1, 1);
        x.step(PUT, 0, 1);
        x.template(1, 1, 1, 1, true);
        x.file(0, 1, 1, 1);
        x.run();
        x.step(CHANGE, 1, 1);
        x.pattern(2, -1, -1, -1);
        x.run();
        due("10 three", 3, x::clear);
        due("10 none then", 0, () -> x.told(0));
        due("10 facts stay", 1, () -> x.told(1));
        due("10 work is told", 1, () -> x.told(4));
        due("10 no solutions", OUT, () -> x.solutions(0));
        x.step(CHANGE, 0, 0);
        due("10 a new step has none", -1, () -> x.solutions(0));
        due("10 nor rows", 1, () -> x.pattern(0, 1, 1, 1));
        x.clear();
        put(x, 1, 2, 2, 2);
        due("10 changes are told", "+1,2,2,2", () -> changes(x));
    }

    private static void many() {
        UpdateSteps x = new UpdateSteps();
        due("11 below", OUT, () -> x.many(-1));
        due("11 above", OUT, () -> x.many(7));
        put(x, 6, 1, 1, 1);
        put(x, 6, 1, 1, 1);
        put(x, 6, 1, 2, 1);
        due("11 each once", 2, () -> x.many(6));
        due("11 not there", -1, () -> x.many(5));
    }

    private static void at() {
        UpdateSteps x = new UpdateSteps();
        put(x, 0, 99, 0, 0);
        put(x, 0, -11, 99, 99);
        put(x, 0, 0, 99, 5);
        put(x, 0, 0, 99, -11);
        put(x, 0, 0, 5, 99);
        due("12 by subject, property, object", "0,5,99 0,99,5 0,99,101 99,0,0 100,99,99", () -> facts(x, 0));
        due("12 graph below", OUT, () -> x.at(-1, 0, 0));
        due("12 graph above", OUT, () -> x.at(7, 0, 3));
        due("12 graph not there", OUT, () -> x.at(1, 0, 0));
        due("12 fact below", OUT, () -> x.at(0, -1, 3));
        due("12 fact above", OUT, () -> x.at(0, 5, 3));
        due("12 what below", ARGUMENT, () -> x.at(0, 0, -1));
        due("12 what above", ARGUMENT, () -> x.at(0, 4, 3));
    }

    private static void has() {
        UpdateSteps x = new UpdateSteps();
        put(x, 0, 1, 2, 3);
        put(x, 0, -11, 2, 0);
        due("13 is there", true, () -> x.has(0, 1, 2, 3));
        due("13 a blank", true, () -> x.has(0, 100, 2, 0));
        due("13 other subject", false, () -> x.has(0, 2, 2, 3));
        due("13 other property", false, () -> x.has(0, 1, 3, 3));
        due("13 other object", false, () -> x.has(0, 1, 2, 2));
        due("13 graph not there", false, () -> x.has(1, 1, 2, 3));
        for (int shift = 0; shift < 32; shift++) {
            int far = 1 << shift;
            due("13 far subject", false, () -> x.has(0, 1 + far, 2, 3));
            due("13 far property", false, () -> x.has(0, 1, 2 + far, 3));
            due("13 far object", false, () -> x.has(0, 1, 2, 3 + far));
        }
        due("13 carried over", false, () -> x.has(0, 1, 1, 3 + 256));
        due("13 carried back", false, () -> x.has(0, 1, 3, 3 - 256));
        due("13 negative", false, () -> x.has(0, -1, -1, -1));
        due("13 graph below", OUT, () -> x.has(-1, 1, 2, 3));
        due("13 graph above", OUT, () -> x.has(7, 1, 2, 3));
    }

    private static void changed() {
        UpdateSteps x = new UpdateSteps();
        due("14 no run", OUT, () -> x.changed(0, 0));
        put(x, 4, 1, 2, 3);
        due("14 graph", 4, () -> x.changed(0, 0));
        due("14 subject", 1, () -> x.changed(0, 1));
        due("14 property", 2, () -> x.changed(0, 2));
        due("14 object", 3, () -> x.changed(0, 3));
        due("14 came", 1, () -> x.changed(0, 4));
        due("14 what below", ARGUMENT, () -> x.changed(0, -1));
        due("14 what above", ARGUMENT, () -> x.changed(0, 5));
        due("14 change below", OUT, () -> x.changed(-1, 5));
        due("14 change above", OUT, () -> x.changed(1, 5));
        x.step(MAKE, 0, 4);
        x.run();
        due("14 a run that ended leaves them", "+4,1,2,3", () -> changes(x));
        x.clear();
        x.step(TAKE, 0, 4);
        x.template(0, 1, 2, 3, false);
        x.step(PUT, 0, 4);
        x.template(1, 1, 2, 3, true);
        x.step(PUT, 0, 3);
        x.template(2, 1, 1, 1, true);
        x.step(DROP, 0, 3);
        due("14 what came back, or went again, is none", 0, x::run);
        due("14 so there is none", "", () -> changes(x));
    }

    private static void changedOrder() {
        UpdateSteps x = new UpdateSteps();
        put(x, 2, 1, 1, 1);
        put(x, 2, 3, 1, 1);
        put(x, 0, 9, 9, 9);
        x.step(PUT, 0, 2);
        x.template(0, 2, 1, 1, true);
        x.template(0, 1, 1, 0, true);
        x.step(TAKE, 0, 2);
        x.template(1, 3, 1, 1, false);
        x.template(1, 1, 1, 1, false);
        x.step(COPY, 2, 1);
        x.step(CLEAR, 0, 0);
        due("14 how many", 7, x::run);
        due("14 by graphs, then by facts", "-0,9,9,9 +1,1,1,0 +1,2,1,1 +2,1,1,0 -2,1,1,1 +2,2,1,1 -2,3,1,1",
                () -> changes(x));
        due("14 told", 7, () -> x.told(3));
        UpdateSteps y = new UpdateSteps();
        fill(y, 1, 1, 100);
        fill(y, 2, 1, 20);
        y.step(MOVE, 1, 3);
        y.step(MOVE, 2, 4);
        due("14 all that there may be", 240, y::run);
        due("14 the last", 1, () -> y.changed(239, 4));
    }

    private static void solutions() {
        UpdateSteps x = new UpdateSteps();
        due("15 no step", OUT, () -> x.solutions(0));
        x.step(CHANGE, 5, 0);
        x.step(CHANGE, 5, 0);
        x.pattern(1, -1, -2, -3);
        x.step(PUT, 0, 0);
        x.step(CHANGE, 0, 0);
        x.template(3, -11, 1, -12, true);
        x.step(CLEAR, 0, 3);
        x.step(CHANGE, 0, 0);
        due("15 no run", -1, () -> x.solutions(0));
        due("15 ends at the fifth", -3, x::run);
        due("15 without rows", 1, () -> x.solutions(0));
        due("15 of a graph that is not there", 0, () -> x.solutions(1));
        due("15 no CHANGE", -1, () -> x.solutions(2));
        due("15 before it ended", 1, () -> x.solutions(3));
        due("15 where it ended", -1, () -> x.solutions(4));
        due("15 it did not come there", -1, () -> x.solutions(5));
        due("15 below", OUT, () -> x.solutions(-1));
        due("15 above", OUT, () -> x.solutions(6));
        x.silent(4, true);
        x.run();
        due("15 now it did", 1, () -> x.solutions(5));
        x.step(CHANGE, 0, 0);
        due("15 came since", -1, () -> x.solutions(6));
        due("15 the others are told", 1, () -> x.solutions(5));
        x.clear();
        x.step(READ, 0, 0);
        x.step(CHANGE, 0, 0);
        x.run();
        due("15 the latest run came to it", 1, () -> x.solutions(1));
        x.torn(0, true);
        x.run();
        due("15 the latest run did not come to it", -1, () -> x.solutions(1));
        UpdateSteps y = new UpdateSteps();
        fill(y, 0, 1, 70);
        y.step(CHANGE, 0, 1);
        y.pattern(0, 1, -1, -2);
        y.template(0, -1, 1, -11, true);
        due("15 the step ended it for want of room", -5, y::run);
        due("15 those that were found are told", 70, () -> y.solutions(0));
        y.clear();
        y.step(CHANGE, 0, 1);
        y.pattern(0, 1, -1, -2);
        y.step(MAKE, 0, 1);
        y.step(MAKE, 0, 1);
        y.run();
        due("15 a later step ended it", 70, () -> y.solutions(0));
    }

    private static void told() {
        UpdateSteps x = new UpdateSteps();
        due("16 below", ARGUMENT, () -> x.told(-1));
        due("16 above", ARGUMENT, () -> x.told(5));
        put(x, 1, -11, 1, 2);
        put(x, 2, 3, 1, 2);
        x.step(CHANGE, 2, 0);
        x.pattern(0, -1, 1, -2);
        x.step(CHANGE, 1, 1);
        x.pattern(1, -1, 9, -2);
        x.pattern(1, -1, 1, -2);
        x.step(ADD, 1, 2);
        x.run();
        due("16 steps", 3, () -> x.told(0));
        due("16 facts", 3, () -> x.told(1));
        due("16 blanks", 1, () -> x.told(2));
        due("16 changes", 1, () -> x.told(3));
        due("16 a fact that does not fit is work, too", 2, () -> x.told(4));
        x.step(MAKE, 0, 1);
        x.run();
        due("16 changes of the run that went through", 1, () -> x.told(3));
        due("16 no work of one that ended", 0, () -> x.told(4));
    }
}
