import java.util.Arrays;

/** Updates of a store of graphs, several in a row, all of them or none. */
public final class UpdateSteps {
    public static final int NONE = -1, ALL = -1, NAMED = -2;

    private static final int GRAPHS = 7, DEFAULT_GRAPH = 0;
    private static final int FILES = 4;
    private static final int MOST_STEPS = 12, MOST_TEMPLATES = 6, MOST_PATTERN_ROWS = 4, MOST_FILE_ROWS = 10;
    private static final int MOST_FACTS = 120, MOST_BLANKS = 60;
    private static final int MOST_WORK = 5000, MOST_SOLUTIONS = 100;

    private static final int NAMES = 100, FIRST_BLANK = 100;
    private static final int FIRST_VARIABLE = -1, FIRST_NEW_BLANK = -11, MARKS = 4;

    private static final int PUT = 0, TAKE = 1, CHANGE = 2, CLEAR = 3, MAKE = 4;
    private static final int DROP = 5, COPY = 6, MOVE = 7, ADD = 8, READ = 9;

    private static final int DONE = 0, GRAPH_IS_THERE = 1, NO_GRAPH = 2, FILE_IS_TORN = 3, NO_ROOM = 4, TOO_MUCH = 5;

    private final Step[] steps = new Step[MOST_STEPS];
    private final Worker worker = new Worker();
    private final Store store = worker.store;
    private final Store before = new Store();
    private final Changes changes = new Changes();
    private int stepCount = 0;
    private int failedStep = NONE;
    private int latestWork = 0;

    public UpdateSteps() {
        for (int i = 0; i < MOST_STEPS; i++) {
            steps[i] = new Step();
        }
    }

    public int step(int kind, int from, int to) throws IllegalArgumentException, IllegalStateException {
        if (kind < PUT || kind > READ || !fromMayBe(kind, from) || !toMayBe(kind, to)) {
            throw new IllegalArgumentException("no such kind, or not with this FROM or TO");
        }
        if (stepCount >= MOST_STEPS) {
            throw new IllegalStateException("no more steps");
        }
        // A FROM that does not count may be any number: it must never be used to find a graph.
        steps[stepCount].begin(kind, fromCounts(kind) ? from : DEFAULT_GRAPH, to);
        stepCount++;
        return stepCount - 1;
    }

    public boolean silent(int step, boolean on) throws IndexOutOfBoundsException {
        Step changing = stepNumbered(step);
        boolean was = changing.isSilent;
        changing.isSilent = on;
        return was;
    }

    public int template(int step, int s, int p, int o, boolean adds) throws IndexOutOfBoundsException, IllegalArgumentException, IllegalStateException {
        Step growing = stepNumbered(step);
        int kind = growing.kind;
        if (!templateMayBe(kind, adds) || !templateTermMayBe(kind, adds, s)
                || isNewBlank(p) || !templateTermMayBe(kind, adds, p) || !templateTermMayBe(kind, adds, o)) {
            throw new IllegalArgumentException("no such template in this step");
        }
        if (growing.templates.isFull()) {
            throw new IllegalStateException("no more templates");
        }
        return growing.addTemplate(s, p, o, adds);
    }

    public int pattern(int step, int s, int p, int o) throws IndexOutOfBoundsException, IllegalArgumentException, IllegalStateException {
        Step growing = stepNumbered(step);
        if (growing.kind != CHANGE || !patternTermMayBe(s) || !patternTermMayBe(p) || !patternTermMayBe(o)) {
            throw new IllegalArgumentException("no such pattern in this step");
        }
        if (growing.patternRows.isFull()) {
            throw new IllegalStateException("no more rows of the pattern");
        }
        return growing.patternRows.append(s, p, o);
    }

    public int file(int file, int s, int p, int o) throws IndexOutOfBoundsException, IllegalArgumentException, IllegalStateException {
        FileRows growing = fileNumbered(file);
        if (!isName(s) || !isName(p) || !isName(o)) {
            throw new IllegalArgumentException("a file has names alone");
        }
        if (growing.rows.isFull()) {
            throw new IllegalStateException("no more rows of the file");
        }
        return growing.rows.append(s, p, o);
    }

    public boolean torn(int file, boolean on) throws IndexOutOfBoundsException {
        FileRows changing = fileNumbered(file);
        boolean was = changing.isTorn;
        changing.isTorn = on;
        return was;
    }

    public int run() {
        before.become(store);
        worker.work = 0;
        for (int i = 0; i < stepCount; i++) {
            steps[i].found = NONE;
        }
        for (int i = 0; i < stepCount; i++) {
            int reason = worker.perform(steps[i]);
            if (reason != DONE && !isPassedOver(steps[i], reason)) {
                store.become(before);
                failedStep = i;
                latestWork = 0;
                return -1 - reason;
            }
        }
        failedStep = NONE;
        latestWork = worker.work;
        changes.compare(before, store);
        return changes.count;
    }

    public int fails() {
        return failedStep;
    }

    public int clear() {
        int were = stepCount;
        stepCount = 0;
        return were;
    }

    public int many(int graph) throws IndexOutOfBoundsException {
        Graph asked = graphNumbered(graph);
        return asked.isThere ? asked.size : NONE;
    }

    public int at(int graph, int i, int what) throws IndexOutOfBoundsException, IllegalArgumentException {
        Graph asked = graphNumbered(graph);
        if (i < 0 || i >= asked.size) {
            throw new IndexOutOfBoundsException("no such fact");
        }
        if (what < 0 || what > 2) {
            throw new IllegalArgumentException("a fact has parts 0 to 2");
        }
        return partOf(asked.facts[i], what);
    }

    public boolean has(int graph, int s, int p, int o) throws IndexOutOfBoundsException {
        Graph asked = graphNumbered(graph);
        return isPart(s) && isPart(p) && isPart(o) && asked.holds(factOf(s, p, o));
    }

    public int changed(int i, int what) throws IndexOutOfBoundsException, IllegalArgumentException {
        if (i < 0 || i >= changes.count) {
            throw new IndexOutOfBoundsException("no such change");
        }
        if (what < 0 || what > 4) {
            throw new IllegalArgumentException("a change has parts 0 to 4");
        }
        if (what == 0) {
            return changes.graph[i];
        }
        return what == 4 ? changes.came[i] : partOf(changes.fact[i], what - 1);
    }

    public int solutions(int step) throws IndexOutOfBoundsException {
        return stepNumbered(step).found;
    }

    public int told(int what) throws IllegalArgumentException {
        switch (what) {
            case 0:
                return stepCount;
            case 1:
                return store.factCount();
            case 2:
                return store.blanks;
            case 3:
                return changes.count;
            case 4:
                return latestWork;
            default:
                throw new IllegalArgumentException("what is 0 to 4");
        }
    }

    private Step stepNumbered(int step) {
        if (step < 0 || step >= stepCount) {
            throw new IndexOutOfBoundsException("no such step");
        }
        return steps[step];
    }

    private FileRows fileNumbered(int file) {
        if (file < 0 || file >= FILES) {
            throw new IndexOutOfBoundsException("no such file");
        }
        return worker.files[file];
    }

    private Graph graphNumbered(int graph) {
        if (!isGraph(graph)) {
            throw new IndexOutOfBoundsException("no such graph");
        }
        return store.graphs[graph];
    }

    private static boolean isGraph(int graph) {
        return graph >= DEFAULT_GRAPH && graph < GRAPHS;
    }

    private static boolean fromCounts(int kind) {
        return kind == CHANGE || kind >= COPY;
    }

    private static boolean fromMayBe(int kind, int from) {
        if (kind == READ) {
            return from >= 0 && from < FILES;
        }
        return !fromCounts(kind) || isGraph(from);
    }

    private static boolean toMayBe(int kind, int to) {
        if (to == ALL || to == NAMED) {
            return kind == CLEAR || kind == DROP;
        }
        return isGraph(to) && (kind != MAKE || to != DEFAULT_GRAPH);
    }

    private static boolean templateMayBe(int kind, boolean adds) {
        return kind == CHANGE || (kind == PUT && adds) || (kind == TAKE && !adds);
    }

    private static boolean templateTermMayBe(int kind, boolean adds, int term) {
        return isName(term) || (isVariable(term) && kind == CHANGE) || (isNewBlank(term) && adds);
    }

    private static boolean patternTermMayBe(int term) {
        return isName(term) || isVariable(term);
    }

    private static boolean isName(int term) {
        return term >= 0 && term < NAMES;
    }

    private static boolean isVariable(int term) {
        return term <= FIRST_VARIABLE && term > FIRST_VARIABLE - MARKS;
    }

    private static boolean isNewBlank(int term) {
        return term <= FIRST_NEW_BLANK && term > FIRST_NEW_BLANK - MARKS;
    }

    private static boolean isPassedOver(Step step, int reason) {
        return step.isSilent && reason <= FILE_IS_TORN;
    }

    // A fact is one number, so that the order of numbers is the order by subject, property, object.
    private static int factOf(int s, int p, int o) {
        return s << 16 | p << 8 | o;
    }

    private static int partOf(int fact, int what) {
        return fact >> (16 - 8 * what) & 255;
    }

    // What does not fit into eight bits would look like another fact.
    private static boolean isPart(int number) {
        return number >= 0 && number <= 255;
    }

    /** Rows of three terms each, up to a bound. */
    private static final class Rows {
        private final int[] terms;
        private final int most;
        private int count = 0;

        Rows(int most) {
            this.most = most;
            terms = new int[3 * most];
        }

        boolean isFull() {
            return count >= most;
        }

        int append(int s, int p, int o) {
            if (!isFull()) {
                terms[3 * count] = s;
                terms[3 * count + 1] = p;
                terms[3 * count + 2] = o;
                count++;
            }
            return count;
        }

        int subject(int row) {
            return terms[3 * row];
        }

        int property(int row) {
            return terms[3 * row + 1];
        }

        int object(int row) {
            return terms[3 * row + 2];
        }
    }

    /** One step of the sequence; it is used again after the sequence was cleared. */
    private static final class Step {
        private final Rows templates = new Rows(MOST_TEMPLATES);
        private final boolean[] templateAdds = new boolean[MOST_TEMPLATES];
        private final Rows patternRows = new Rows(MOST_PATTERN_ROWS);
        private int kind = PUT;
        private int from = DEFAULT_GRAPH;
        private int to = DEFAULT_GRAPH;
        private boolean isSilent = false;
        private int found = NONE;

        void begin(int newKind, int newFrom, int newTo) {
            kind = newKind;
            from = newFrom;
            to = newTo;
            isSilent = false;
            found = NONE;
            templates.count = 0;
            patternRows.count = 0;
        }

        int addTemplate(int s, int p, int o, boolean adds) {
            if (!templates.isFull()) {
                templateAdds[templates.count] = adds;
            }
            return templates.append(s, p, o);
        }
    }

    private static final class FileRows {
        private final Rows rows = new Rows(MOST_FILE_ROWS);
        private boolean isTorn = false;
    }

    /** The facts of one graph in their order; none while the graph is not there. */
    private static final class Graph {
        private final int[] facts = new int[MOST_FACTS];
        private int size = 0;
        private boolean isThere = false;

        /** How many facts stand before this one, whether it is there or not. */
        int placeOf(int fact) {
            int low = 0;
            int high = size;
            while (low < high) {
                int middle = (low + high) >>> 1;
                if (facts[middle] < fact) {
                    low = middle + 1;
                } else {
                    high = middle;
                }
            }
            return low;
        }

        boolean holds(int fact) {
            int place = placeOf(fact);
            return place < size && facts[place] == fact;
        }

        void insert(int fact) {
            int place = placeOf(fact);
            if (size < MOST_FACTS) {
                System.arraycopy(facts, place, facts, place + 1, size - place);
                facts[place] = fact;
                size++;
            }
        }

        void remove(int fact) {
            int place = placeOf(fact);
            if (place < size && facts[place] == fact) {
                System.arraycopy(facts, place + 1, facts, place, size - place - 1);
                size--;
            }
        }

        void become(Graph other) {
            System.arraycopy(other.facts, 0, facts, 0, other.size);
            size = other.size;
            isThere = other.isThere;
        }
    }

    /** All that a run changes and a failed run gives back: graphs and blanks. */
    private static final class Store {
        private final Graph[] graphs = new Graph[GRAPHS];
        private int blanks = 0;

        Store() {
            for (int i = 0; i < GRAPHS; i++) {
                graphs[i] = new Graph();
            }
            graphs[DEFAULT_GRAPH].isThere = true;
        }

        int factCount() {
            int count = 0;
            for (int i = 0; i < GRAPHS; i++) {
                count += graphs[i].size;
            }
            return count;
        }

        /** Puts a fact into a graph, which is made for it; false if there is no room. */
        boolean put(Graph graph, int fact) {
            graph.isThere = true;
            if (graph.holds(fact)) {
                return true;
            }
            if (factCount() >= MOST_FACTS) {
                return false;
            }
            graph.insert(fact);
            return true;
        }

        void drop(int graph) {
            graphs[graph].size = 0;
            graphs[graph].isThere = graph == DEFAULT_GRAPH;
        }

        /** The number of a blank that was not there before; NONE if there is no room. */
        int makeBlank() {
            if (blanks >= MOST_BLANKS) {
                return NONE;
            }
            blanks++;
            return FIRST_BLANK + blanks - 1;
        }

        void become(Store other) {
            for (int i = 0; i < GRAPHS; i++) {
                graphs[i].become(other.graphs[i]);
            }
            blanks = other.blanks;
        }
    }

    /** Finds the solutions of a pattern in a graph, in their order. */
    private static final class Search {
        // Values by depth: a level writes behind its own ones, so nothing must be undone.
        private final int[][] valuesAt = new int[MOST_PATTERN_ROWS + 1][MARKS];
        private final int[] solved = new int[MOST_SOLUTIONS * MARKS];
        private int found = 0;
        private int work = 0;

        /** False if there is more work, or more solutions, than may be. */
        boolean find(Rows pattern, Graph graph) {
            found = 0;
            work = 0;
            Arrays.fill(valuesAt[0], NONE);
            return goOn(pattern, graph, 0);
        }

        int valueIn(int solution, int variable) {
            return solved[solution * MARKS + FIRST_VARIABLE - variable];
        }

        private boolean goOn(Rows pattern, Graph graph, int row) {
            if (row >= pattern.count || row >= MOST_PATTERN_ROWS) {
                return keep(valuesAt[row]);
            }
            boolean isWithin = true;
            for (int i = 0; i < graph.size && isWithin; i++) {
                isWithin = holdAgainst(pattern, graph, row, graph.facts[i]);
            }
            return isWithin;
        }

        private boolean holdAgainst(Rows pattern, Graph graph, int row, int fact) {
            work++;
            if (work > MOST_WORK) {
                return false;
            }
            return !fits(pattern, row, fact) || goOn(pattern, graph, row + 1);
        }

        // The solution that is too many was found as well: it counts, but is not kept.
        private boolean keep(int[] values) {
            found++;
            if (found > MOST_SOLUTIONS) {
                return false;
            }
            System.arraycopy(values, 0, solved, (found - 1) * MARKS, MARKS);
            return true;
        }

        private boolean fits(Rows pattern, int row, int fact) {
            int[] values = valuesAt[row + 1];
            System.arraycopy(valuesAt[row], 0, values, 0, MARKS);
            return agrees(values, pattern.subject(row), partOf(fact, 0))
                    && agrees(values, pattern.property(row), partOf(fact, 1))
                    && agrees(values, pattern.object(row), partOf(fact, 2));
        }

        private static boolean agrees(int[] values, int term, int part) {
            if (term >= 0) {
                return term == part;
            }
            int slot = FIRST_VARIABLE - term;
            if (values[slot] == NONE) {
                values[slot] = part;
            }
            return values[slot] == part;
        }
    }

    /** Does single steps on the store; the answer is DONE or the reason why not. */
    private static final class Worker {
        private final Store store = new Store();
        private final FileRows[] files = new FileRows[FILES];
        private final Search search = new Search();
        private final int[] newBlanks = new int[MARKS];
        private int work = 0;

        Worker() {
            for (int i = 0; i < FILES; i++) {
                files[i] = new FileRows();
            }
        }

        // Reasons that a silent step passes over are all found before the store is touched.
        int perform(Step step) {
            switch (step.kind) {
                case CLEAR:
                case DROP:
                    return takeAllFacts(step);
                case MAKE:
                    return makeGraph(step);
                case COPY:
                case MOVE:
                case ADD:
                    return bringGraph(step);
                case READ:
                    return readFile(step);
                default:
                    return rewrite(step);
            }
        }

        private int takeAllFacts(Step step) {
            boolean isOne = isGraph(step.to);
            if (isOne && !store.graphs[step.to].isThere) {
                return NO_GRAPH;
            }
            int first = isOne ? step.to : step.to == ALL ? DEFAULT_GRAPH : DEFAULT_GRAPH + 1;
            int last = isOne ? step.to : GRAPHS - 1;
            for (int i = first; i <= last; i++) {
                if (step.kind == DROP) {
                    store.drop(i);
                } else {
                    store.graphs[i].size = 0;
                }
            }
            return DONE;
        }

        private int makeGraph(Step step) {
            Graph graph = store.graphs[step.to];
            if (graph.isThere) {
                return GRAPH_IS_THERE;
            }
            graph.isThere = true;
            return DONE;
        }

        private int bringGraph(Step step) {
            Graph from = store.graphs[step.from];
            Graph to = store.graphs[step.to];
            if (!from.isThere) {
                return NO_GRAPH;
            }
            if (step.from == step.to) {
                return DONE;
            }
            if (step.kind == ADD) {
                return addGraph(from, to);
            }
            to.size = 0;
            if (step.kind == COPY && store.factCount() + from.size > MOST_FACTS) {
                return NO_ROOM;
            }
            to.become(from);
            if (step.kind == MOVE) {
                store.drop(step.from);
            }
            return DONE;
        }

        private int addGraph(Graph from, Graph to) {
            to.isThere = true;
            for (int i = 0; i < from.size; i++) {
                if (!store.put(to, from.facts[i])) {
                    return NO_ROOM;
                }
            }
            return DONE;
        }

        private int readFile(Step step) {
            FileRows file = files[step.from];
            if (file.isTorn) {
                return FILE_IS_TORN;
            }
            Graph to = store.graphs[step.to];
            to.isThere = true;
            for (int i = 0; i < file.rows.count; i++) {
                if (!store.put(to, factOf(file.rows.subject(i), file.rows.property(i), file.rows.object(i)))) {
                    return NO_ROOM;
                }
            }
            return DONE;
        }

        // PUT and TAKE have no pattern, so theirs is the one solution without values.
        private int rewrite(Step step) {
            boolean isWithin = search.find(step.patternRows, store.graphs[step.from]);
            work += search.work;
            if (step.kind == CHANGE) {
                step.found = search.found;
            }
            if (!isWithin) {
                return TOO_MUCH;
            }
            for (int i = 0; i < search.found; i++) {
                takeAwayFor(step, i);
            }
            for (int i = 0; i < search.found; i++) {
                if (!addFor(step, i)) {
                    return NO_ROOM;
                }
            }
            return DONE;
        }

        private void takeAwayFor(Step step, int solution) {
            for (int i = 0; i < step.templates.count; i++) {
                if (!step.templateAdds[i]) {
                    applyRow(step, i, solution);
                }
            }
        }

        private boolean addFor(Step step, int solution) {
            Arrays.fill(newBlanks, NONE);
            boolean hasRoom = true;
            for (int i = 0; i < step.templates.count && hasRoom; i++) {
                hasRoom = !step.templateAdds[i] || applyRow(step, i, solution);
            }
            return hasRoom;
        }

        /** Adds or takes away what a template is in a solution; false if there is no room. */
        private boolean applyRow(Step step, int row, int solution) {
            Graph to = store.graphs[step.to];
            int s = valueOf(step.templates.subject(row), solution);
            int p = valueOf(step.templates.property(row), solution);
            int o = valueOf(step.templates.object(row), solution);
            // A row that is left out must make no blanks, so this comes before they get their numbers.
            if (s == NONE || o == NONE || !isName(p)) {
                return true;
            }
            if (!step.templateAdds[row]) {
                to.remove(factOf(s, p, o));
                return true;
            }
            int subject = withBlank(s);
            int object = withBlank(o);
            return subject != NONE && object != NONE && store.put(to, factOf(subject, p, object));
        }

        /** What a term stands for; NONE for a variable without a value; a new blank stays as it is. */
        private int valueOf(int term, int solution) {
            return isVariable(term) ? search.valueIn(solution, term) : term;
        }

        /** The number of a new blank, the same all through a solution; NONE if there is no room. */
        private int withBlank(int term) {
            if (!isNewBlank(term)) {
                return term;
            }
            int slot = FIRST_NEW_BLANK - term;
            if (newBlanks[slot] == NONE) {
                newBlanks[slot] = store.makeBlank();
            }
            return newBlanks[slot];
        }
    }

    /** How the facts of two stores differ, by graph and fact. */
    private static final class Changes {
        private final int[] graph = new int[2 * MOST_FACTS];
        private final int[] fact = new int[2 * MOST_FACTS];
        private final int[] came = new int[2 * MOST_FACTS];
        private int count = 0;

        void compare(Store was, Store is) {
            count = 0;
            for (int i = 0; i < GRAPHS; i++) {
                compareGraphs(i, was.graphs[i], is.graphs[i]);
            }
        }

        private void compareGraphs(int number, Graph was, Graph is) {
            int i = 0;
            int j = 0;
            while (i < was.size || j < is.size) {
                if (j >= is.size || (i < was.size && was.facts[i] < is.facts[j])) {
                    note(number, was.facts[i], 0);
                    i++;
                } else if (i >= was.size || is.facts[j] < was.facts[i]) {
                    note(number, is.facts[j], 1);
                    j++;
                } else {
                    i++;
                    j++;
                }
            }
        }

        private void note(int number, int changedFact, int isNew) {
            if (count < 2 * MOST_FACTS) {
                graph[count] = number;
                fact[count] = changedFact;
                came[count] = isNew;
                count++;
            }
        }
    }
}
