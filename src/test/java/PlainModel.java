import java.util.ArrayList;
import java.util.Arrays;
import java.util.HashMap;
import java.util.List;
import java.util.Map;
import java.util.TreeMap;
import java.util.TreeSet;

/** The document once more, with the library's collections: what random runs are held against. */
final class PlainModel {
    record Fact(int s, int p, int o) implements Comparable<Fact> {
        @Override
        public int compareTo(Fact other) {
            return s != other.s ? Integer.compare(s, other.s)
                    : p != other.p ? Integer.compare(p, other.p) : Integer.compare(o, other.o);
        }

        int part(int what) {
            return what == 0 ? s : what == 1 ? p : o;
        }
    }

    record Template(Fact row, boolean adds) { }

    record Change(int graph, Fact fact, boolean came) { }

    private static final class Step {
        int kind;
        int from;
        int to;
        boolean silent;
        int found = -1;
        final List<Template> templates = new ArrayList<>();
        final List<Fact> pattern = new ArrayList<>();
    }

    private static final class Ended extends RuntimeException {
        private static final long serialVersionUID = 1L;
        final int reason;

        Ended(int reason) {
            this.reason = reason;
        }
    }

    private TreeMap<Integer, TreeSet<Fact>> graphs = new TreeMap<>();
    private int blanks = 0;
    private final List<Step> steps = new ArrayList<>();
    private final List<List<Fact>> files = new ArrayList<>();
    private final boolean[] torn = new boolean[4];
    private List<Change> changes = new ArrayList<>();
    private int fails = -1;
    private int work = 0;
    private int stepWork = 0;

    PlainModel() {
        graphs.put(0, new TreeSet<>());
        for (int i = 0; i < 4; i++) {
            files.add(new ArrayList<>());
        }
    }

    private static boolean within(int number, int low, int high) {
        return low <= number && number <= high;
    }

    private static void argument(boolean good) {
        if (!good) {
            throw new IllegalArgumentException();
        }
    }

    private static void index(boolean good) {
        if (!good) {
            throw new IndexOutOfBoundsException();
        }
    }

    private static void state(boolean good) {
        if (!good) {
            throw new IllegalStateException();
        }
    }

    int step(int kind, int from, int to) {
        argument(within(kind, 0, 9));
        if (kind == 9) {
            argument(within(from, 0, 3));
        } else if (List.of(2, 6, 7, 8).contains(kind)) {
            argument(within(from, 0, 6));
        }
        argument(within(to, kind == 4 ? 1 : kind == 3 || kind == 5 ? -2 : 0, 6));
        state(steps.size() < 12);
        Step step = new Step();
        step.kind = kind;
        step.from = from;
        step.to = to;
        steps.add(step);
        return steps.size() - 1;
    }

    boolean silent(int step, boolean on) {
        index(within(step, 0, steps.size() - 1));
        boolean was = steps.get(step).silent;
        steps.get(step).silent = on;
        return was;
    }

    int template(int number, int s, int p, int o, boolean adds) {
        index(within(number, 0, steps.size() - 1));
        Step step = steps.get(number);
        argument(within(step.kind, 0, 2) && (step.kind != 0 || adds) && (step.kind != 1 || !adds));
        for (int term : new int[] {s, p, o}) {
            boolean name = within(term, 0, 99);
            boolean variable = within(term, -4, -1) && step.kind == 2;
            boolean fresh = within(term, -14, -11) && adds;
            argument(name || variable || fresh);
        }
        argument(p > -11);
        state(step.templates.size() < 6);
        step.templates.add(new Template(new Fact(s, p, o), adds));
        return step.templates.size();
    }

    int pattern(int number, int s, int p, int o) {
        index(within(number, 0, steps.size() - 1));
        Step step = steps.get(number);
        argument(step.kind == 2);
        argument(within(s, -4, 99) && within(p, -4, 99) && within(o, -4, 99));
        state(step.pattern.size() < 4);
        step.pattern.add(new Fact(s, p, o));
        return step.pattern.size();
    }

    int file(int file, int s, int p, int o) {
        index(within(file, 0, 3));
        argument(within(s, 0, 99) && within(p, 0, 99) && within(o, 0, 99));
        state(files.get(file).size() < 10);
        files.get(file).add(new Fact(s, p, o));
        return files.get(file).size();
    }

    boolean torn(int file, boolean on) {
        index(within(file, 0, 3));
        boolean was = torn[file];
        torn[file] = on;
        return was;
    }

    private static TreeMap<Integer, TreeSet<Fact>> copyOf(TreeMap<Integer, TreeSet<Fact>> graphs) {
        TreeMap<Integer, TreeSet<Fact>> copy = new TreeMap<>();
        graphs.forEach((graph, facts) -> copy.put(graph, new TreeSet<>(facts)));
        return copy;
    }

    int run() {
        TreeMap<Integer, TreeSet<Fact>> before = copyOf(graphs);
        int blanksBefore = blanks;
        work = 0;
        fails = -1;
        for (Step step : steps) {
            step.found = -1;
        }
        for (int i = 0; i < steps.size(); i++) {
            try {
                perform(steps.get(i));
            } catch (Ended ended) {
                if (ended.reason > 3 || !steps.get(i).silent) {
                    graphs = before;
                    blanks = blanksBefore;
                    fails = i;
                    work = 0;
                    return -1 - ended.reason;
                }
            }
        }
        changes = difference(before);
        return changes.size();
    }

    private List<Change> difference(TreeMap<Integer, TreeSet<Fact>> before) {
        List<Change> all = new ArrayList<>();
        for (int graph = 0; graph < 7; graph++) {
            TreeSet<Fact> was = before.getOrDefault(graph, new TreeSet<>());
            TreeSet<Fact> is = graphs.getOrDefault(graph, new TreeSet<>());
            TreeSet<Fact> both = new TreeSet<>(was);
            both.addAll(is);
            for (Fact fact : both) {
                if (was.contains(fact) != is.contains(fact)) {
                    all.add(new Change(graph, fact, is.contains(fact)));
                }
            }
        }
        return all;
    }

    private void perform(Step step) {
        if (step.kind <= 2) {
            rewrite(step);
        } else if (step.kind == 4) {
            need(!graphs.containsKey(step.to), 1);
            graphs.put(step.to, new TreeSet<>());
        } else if (step.kind == 3 || step.kind == 5) {
            takeAll(step);
        } else if (step.kind == 9) {
            need(!torn[step.from], 3);
            come(step.to, files.get(step.from));
        } else {
            bring(step);
        }
        int total = 0;
        for (TreeSet<Fact> facts : graphs.values()) {
            total += facts.size();
        }
        // Facts only come once the others have gone, so the end of a step is where they are most.
        need(total <= 120 && blanks <= 60, 4);
    }

    private static void need(boolean good, int reason) {
        if (!good) {
            throw new Ended(reason);
        }
    }

    private void come(int graph, Iterable<Fact> facts) {
        TreeSet<Fact> into = graphs.computeIfAbsent(graph, none -> new TreeSet<>());
        for (Fact fact : facts) {
            into.add(fact);
        }
    }

    private void takeAll(Step step) {
        need(step.to < 0 || graphs.containsKey(step.to), 2);
        for (int graph : new ArrayList<>(graphs.keySet())) {
            if (graph == step.to || step.to == -1 || (step.to == -2 && graph > 0)) {
                graphs.get(graph).clear();
                if (step.kind == 5 && graph > 0) {
                    graphs.remove(graph);
                }
            }
        }
    }

    private void bring(Step step) {
        need(graphs.containsKey(step.from), 2);
        if (step.from == step.to) {
            return;
        }
        List<Fact> facts = new ArrayList<>(graphs.get(step.from));
        if (step.kind != 8) {
            graphs.remove(step.to);
        }
        come(step.to, facts);
        if (step.kind == 7) {
            graphs.remove(step.from);
            graphs.computeIfAbsent(0, none -> new TreeSet<>());
        }
    }

    private void rewrite(Step step) {
        List<int[]> found = new ArrayList<>();
        stepWork = 0;
        if (step.kind == 2) {
            try {
                List<Fact> facts = new ArrayList<>(graphs.getOrDefault(step.from, new TreeSet<>()));
                solve(step.pattern, facts, 0, new int[] {-1, -1, -1, -1}, found);
            } finally {
                step.found = found.size();
            }
        } else {
            found.add(new int[] {-1, -1, -1, -1});
        }
        work += stepWork;
        for (int[] values : found) {
            for (Fact row : rowsOf(step, false, values)) {
                graphs.getOrDefault(step.to, new TreeSet<>()).remove(row);
            }
        }
        for (int[] values : found) {
            Map<Integer, Integer> fresh = new HashMap<>();
            for (Fact row : rowsOf(step, true, values)) {
                int s = numbered(row.s, fresh);
                int o = numbered(row.o, fresh);
                come(step.to, List.of(new Fact(s, row.p, o)));
            }
        }
    }

    private int numbered(int term, Map<Integer, Integer> fresh) {
        return term >= 0 ? term : fresh.computeIfAbsent(term, none -> 100 + blanks++);
    }

    private static List<Fact> rowsOf(Step step, boolean adds, int[] values) {
        List<Fact> rows = new ArrayList<>();
        for (Template template : step.templates) {
            Fact row = template.row;
            int s = valueOf(row.s, values);
            int p = valueOf(row.p, values);
            int o = valueOf(row.o, values);
            if (template.adds == adds && s != -1 && o != -1 && within(p, 0, 99)) {
                rows.add(new Fact(s, p, o));
            }
        }
        return rows;
    }

    private static int valueOf(int term, int[] values) {
        return within(term, -4, -1) ? values[-1 - term] : term;
    }

    private void solve(List<Fact> pattern, List<Fact> facts, int row, int[] values, List<int[]> found) {
        if (row == pattern.size()) {
            found.add(values);
            need(found.size() <= 100, 5);
            return;
        }
        for (Fact fact : facts) {
            stepWork++;
            need(stepWork <= 5000, 5);
            int[] next = Arrays.copyOf(values, 4);
            boolean fits = true;
            for (int what = 0; what < 3; what++) {
                int term = pattern.get(row).part(what);
                if (term < 0 && next[-1 - term] == -1) {
                    next[-1 - term] = fact.part(what);
                }
                fits &= fact.part(what) == valueOf(term, next);
            }
            if (fits) {
                solve(pattern, facts, row + 1, next, found);
            }
        }
    }

    int fails() {
        return fails;
    }

    int clear() {
        int were = steps.size();
        steps.clear();
        return were;
    }

    int many(int graph) {
        index(within(graph, 0, 6));
        return graphs.containsKey(graph) ? graphs.get(graph).size() : -1;
    }

    int at(int graph, int i, int what) {
        index(within(graph, 0, 6));
        List<Fact> facts = new ArrayList<>(graphs.getOrDefault(graph, new TreeSet<>()));
        index(within(i, 0, facts.size() - 1));
        argument(within(what, 0, 2));
        return facts.get(i).part(what);
    }

    boolean has(int graph, int s, int p, int o) {
        index(within(graph, 0, 6));
        return graphs.getOrDefault(graph, new TreeSet<>()).contains(new Fact(s, p, o));
    }

    int changed(int i, int what) {
        index(within(i, 0, changes.size() - 1));
        argument(within(what, 0, 4));
        Change change = changes.get(i);
        return what == 0 ? change.graph : what == 4 ? (change.came ? 1 : 0) : change.fact.part(what - 1);
    }

    int solutions(int step) {
        index(within(step, 0, steps.size() - 1));
        return steps.get(step).found;
    }

    int told(int what) {
        argument(within(what, 0, 4));
        int total = 0;
        for (TreeSet<Fact> facts : graphs.values()) {
            total += facts.size();
        }
        return new int[] {steps.size(), total, blanks, changes.size(), work}[what];
    }
}
