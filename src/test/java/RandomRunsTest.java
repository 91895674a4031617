import java.util.Random;

/** Random runs of calls, the same each time: the class answers as the plain model does, call by call. */
public final class RandomRunsTest {
    private static final int RUNS = 6000;
    // What an object answers behind its 512th call is free, so no object is asked more.
    private static final int CALLS = 512;
    private static final int LAST_QUESTIONS = 100;

    private final Check check;
    private final Random random;
    private final int[] answers;
    private final UpdateSteps real = new UpdateSteps();
    private final PlainModel model = new PlainModel();
    private final int run;
    private final int names;
    private final boolean isGrowing;
    private int calls = 0;

    private RandomRunsTest(Check check, int run, int[] answers) {
        this.check = check;
        this.run = run;
        this.answers = answers;
        random = new Random(run);
        names = 2 + random.nextInt(random.nextBoolean() ? 3 : 12);
        isGrowing = random.nextInt(3) > 0;
    }

    public static void main(String[] args) {
        Check check = new Check();
        int[] answers = new int[7];
        for (int run = 0; run < RUNS && check.isClean(); run++) {
            new RandomRunsTest(check, run, answers).go();
        }
        for (int reason = 1; reason <= 5; reason++) {
            boolean isReached = answers[1 + reason] >= 50;
            System.out.println(answers[1 + reason] + " of the random runs end with reason " + reason);
            check.due("enough runs that end with reason " + reason, true, () -> isReached);
        }
        check.end("RandomRunsTest");
    }

    private void go() {
        for (int graph = isGrowing ? random.nextInt(3) : -1; graph >= 0; graph--) {
            begin(graph);
        }
        while (calls < CALLS - LAST_QUESTIONS && check.isClean()) {
            int which = random.nextInt(100);
            if (isGrowing && random.nextInt(12) == 0) {
                grow();
            } else if (which < 68) {
                build();
            } else if (which < 90) {
                perform();
            } else {
                ask();
            }
        }
        compareNumbers();
        while (calls < CALLS && check.isClean()) {
            compareParts();
        }
    }

    private void same(String what, Check.Call asked, Check.Call due) {
        if (calls < CALLS) {
            calls++;
            check.due("run " + run + ", call " + calls + ", " + what, Check.answerOf(due), asked);
        }
    }

    // One number in some hundred is wrong: edges and far ones.
    private int odd(int good) {
        int[] wrong = {-15, -14, -11, -10, -5, -4, -3, -2, -1, 3, 4, 5, 6, 7, 10, 12, 99, 100, 101, 256, 65536,
            Integer.MAX_VALUE, Integer.MIN_VALUE};
        return random.nextInt(150) == 0 ? wrong[random.nextInt(wrong.length)] : good;
    }

    private int graph() {
        return odd(random.nextInt(isGrowing ? 3 : 7));
    }

    private int name() {
        return odd(random.nextInt(40) == 0 ? 99 : random.nextInt(names));
    }

    private int variableOr(int other) {
        return random.nextInt(3) > 0 ? odd(-1 - random.nextInt(4)) : other;
    }

    private int lastStep() {
        int count = model.told(0);
        return odd(random.nextInt(4) == 0 ? random.nextInt(12) : count - 1);
    }

    private void build() {
        int which = random.nextInt(20);
        if (which < 8) {
            addStep();
        } else if (which < 12) {
            addTemplates(lastStep(), random.nextInt(3));
        } else if (which < 14) {
            addPattern(lastStep());
        } else if (which < 18) {
            addFileRow();
        } else {
            setFlags();
        }
    }

    // Growing runs come to the limits: little goes there, and what could end them early is rare.
    private int kind() {
        int[] growing = {0, 0, 2, 2, 2, 2, 6, 8, 8, 9};
        if (isGrowing && random.nextInt(20) > 0) {
            return growing[random.nextInt(growing.length)];
        }
        return random.nextInt(2) == 0 ? random.nextInt(3) : random.nextInt(10);
    }

    // So few calls come to the limits only if some facts are there early, and then facts make facts.
    private void begin(int graph) {
        startAnew(0, graph, graph);
        for (int i = 0; i < 6; i++) {
            addTemplate(0, name(), name(), i == 0 ? -11 : name(), true);
        }
        perform();
    }

    private void startAnew(int kind, int from, int to) {
        same("clear()", real::clear, model::clear);
        same("step(" + kind + ", " + from + ", " + to + ")",
                () -> real.step(kind, from, to), () -> model.step(kind, from, to));
    }

    private void grow() {
        startAnew(2, random.nextInt(3), random.nextInt(3));
        addRow(0, -1, -2, -3);
        if (random.nextInt(4) == 0) {
            addRow(0, -4, -2, name());
        }
        for (int i = random.nextInt(2); i >= 0; i--) {
            int which = random.nextInt(4);
            addTemplate(0, which == 0 ? name() : -1, which == 1 ? name() : -2, which > 1 ? -9 - which : -3, true);
        }
        perform();
    }

    private void addStep() {
        int kind = odd(kind());
        int from = kind == 9 ? odd(random.nextInt(4)) : graph();
        int to = (kind == 3 || kind == 5) && random.nextInt(3) == 0 ? odd(-1 - random.nextInt(2)) : graph();
        same("step(" + kind + ", " + from + ", " + to + ")",
                () -> real.step(kind, from, to), () -> model.step(kind, from, to));
        for (int i = kind == 2 ? random.nextInt(4) : 0; i > 0; i--) {
            addPattern(model.told(0) - 1);
        }
        for (int i = kind <= 2 ? random.nextInt(3) : 0; i > 0; i--) {
            addTemplates(model.told(0) - 1, kind);
        }
    }

    // Rows that suit the kind, but for some.
    private void addTemplates(int step, int kind) {
        boolean adds = odd(kind) != 1 && random.nextInt(isGrowing || kind == 0 ? 12 : 3) > 0;
        boolean plain = kind == 1 || random.nextInt(3) == 0;
        for (int i = random.nextInt(4); i >= 0; i--) {
            int s = plain ? name() : term(kind, adds);
            int p = plain || random.nextInt(4) > 0 ? name() : term(kind, random.nextInt(12) == 0);
            int o = plain ? name() : term(kind, adds);
            addTemplate(step, s, p, o, adds);
        }
    }

    private void addTemplate(int step, int s, int p, int o, boolean adds) {
        same("template(" + step + ", " + s + ", " + p + ", " + o + ", " + adds + ")",
                () -> real.template(step, s, p, o, adds), () -> model.template(step, s, p, o, adds));
    }

    private int term(int kind, boolean mayBeNew) {
        int other = mayBeNew && random.nextInt(6) == 0 ? odd(-11 - random.nextInt(4)) : name();
        return kind == 2 || random.nextInt(12) == 0 ? variableOr(other) : other;
    }

    private void addPattern(int step) {
        addRow(step, variableOr(name()), variableOr(name()), variableOr(name()));
    }

    private void addRow(int step, int s, int p, int o) {
        same("pattern(" + step + ", " + s + ", " + p + ", " + o + ")",
                () -> real.pattern(step, s, p, o), () -> model.pattern(step, s, p, o));
    }

    private void addFileRow() {
        int file = odd(random.nextInt(4));
        int s = name();
        int p = name();
        int o = name();
        same("file(" + file + ", " + s + ", " + p + ", " + o + ")",
                () -> real.file(file, s, p, o), () -> model.file(file, s, p, o));
    }

    private void setFlags() {
        boolean on = random.nextInt(4) > 0;
        int step = lastStep();
        int file = odd(random.nextInt(4));
        boolean isTorn = random.nextInt(6) == 0;
        same("silent(" + step + ", " + on + ")", () -> real.silent(step, on), () -> model.silent(step, on));
        same("torn(" + file + ", " + isTorn + ")", () -> real.torn(file, isTorn), () -> model.torn(file, isTorn));
    }

    private void perform() {
        int answer = model.run();
        answers[answer >= 0 ? 0 : -answer]++;
        same("run()", real::run, () -> answer);
        if (random.nextInt(3) == 0) {
            compareNumbers();
        }
        if (random.nextInt(3) == 0) {
            compareParts();
        }
        if (random.nextInt(3) > 0) {
            same("clear()", real::clear, model::clear);
        }
    }

    private void compareNumbers() {
        same("fails()", real::fails, model::fails);
        for (int i = 0; i <= 4; i++) {
            int what = i;
            same("told(" + what + ")", () -> real.told(what), () -> model.told(what));
        }
        int step = random.nextInt(12);
        same("solutions(" + step + ")", () -> real.solutions(step), () -> model.solutions(step));
        for (int i = isGrowing ? 2 : 6; i >= 0; i--) {
            int graph = i;
            same("many(" + graph + ")", () -> real.many(graph), () -> model.many(graph));
        }
    }

    // All facts and changes would be too many calls for one object: a few, others in each run.
    private void compareParts() {
        int graph = random.nextInt(7);
        int fact = random.nextInt(Math.max(model.many(graph), 0) + 1);
        for (int i = 0; i <= 2; i++) {
            int what = i;
            same("at(" + graph + ", " + fact + ", " + what + ")",
                    () -> real.at(graph, fact, what), () -> model.at(graph, fact, what));
        }
        int change = random.nextInt(model.told(3) + 1);
        for (int i = 0; i <= 4; i++) {
            int what = i;
            same("changed(" + change + ", " + what + ")",
                    () -> real.changed(change, what), () -> model.changed(change, what));
        }
    }

    private void ask() {
        int graph = graph();
        int i = odd(random.nextInt(12));
        int what = odd(random.nextInt(5));
        int s = name();
        int p = name();
        int o = name();
        same("many(" + graph + ")", () -> real.many(graph), () -> model.many(graph));
        same("at(" + graph + ", " + i + ", " + what + ")",
                () -> real.at(graph, i, what), () -> model.at(graph, i, what));
        same("has(" + graph + ", " + s + ", " + p + ", " + o + ")",
                () -> real.has(graph, s, p, o), () -> model.has(graph, s, p, o));
        same("changed(" + i + ", " + what + ")", () -> real.changed(i, what), () -> model.changed(i, what));
        same("solutions(" + i + ")", () -> real.solutions(i), () -> model.solutions(i));
        same("told(" + what + ")", () -> real.told(what), () -> model.told(what));
    }
}
