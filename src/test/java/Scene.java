/** What the tests of the document share: the kinds of steps, and short ways to bring a store about and to tell it. */
abstract class Scene {
    static final int PUT = 0, TAKE = 1, CHANGE = 2, CLEAR = 3, MAKE = 4;
    static final int DROP = 5, COPY = 6, MOVE = 7, ADD = 8, READ = 9;
    static final int ALL = UpdateSteps.ALL, NAMED = UpdateSteps.NAMED, NONE = UpdateSteps.NONE;
    static final int FAR = Integer.MAX_VALUE, LOW = Integer.MIN_VALUE;
    static final String OUT = Check.OUT, ARGUMENT = Check.ARGUMENT, STATE = Check.STATE;

    /** One step alone with one row that adds, run and cleared. */
    static void put(UpdateSteps x, int graph, int s, int p, int o) {
        only(x, PUT, 0, graph);
        x.template(0, s, p, o, true);
        x.run();
        x.clear();
    }

    /** Facts (subject, 0, 0), (subject, 0, 1) .. (subject, 1, 0) and so on, as many as asked. */
    static void fill(UpdateSteps x, int graph, int subject, int count) {
        for (int i = 0; i < count; i += 6) {
            only(x, PUT, 0, graph);
            for (int j = i; j < i + 6 && j < count; j++) {
                x.template(0, subject, j / 10, j % 10, true);
            }
            x.run();
        }
        x.clear();
    }

    /** The sequence is one step, without rows. */
    static void only(UpdateSteps x, int kind, int from, int to) {
        x.clear();
        x.step(kind, from, to);
    }

    static String facts(UpdateSteps x, int graph) {
        StringBuilder text = new StringBuilder();
        for (int i = 0; i < x.many(graph); i++) {
            text.append(i == 0 ? "" : " ");
            text.append(x.at(graph, i, 0)).append(',').append(x.at(graph, i, 1)).append(',').append(x.at(graph, i, 2));
        }
        return text.toString();
    }

    /** All graphs that are there, with their facts, and the number of blanks. */
    static String store(UpdateSteps x) {
        StringBuilder text = new StringBuilder();
        for (int graph = 0; graph <= 6; graph++) {
            if (x.many(graph) != NONE) {
                text.append(graph).append('[').append(facts(x, graph)).append("] ");
            }
        }
        return text.append(x.told(2)).toString();
    }

    static String changes(UpdateSteps x) {
        StringBuilder text = new StringBuilder();
        for (int i = 0; i < x.told(3); i++) {
            text.append(i == 0 ? "" : " ").append(x.changed(i, 4) == 1 ? '+' : '-');
            for (int what = 0; what < 4; what++) {
                text.append(what == 0 ? "" : ",").append(x.changed(i, what));
            }
        }
        return text.toString();
    }
}
