import java.util.Random;

/** Random runs of calls, the same each time: the class answers as the plain model does, call by call. */
public final class RandomRunsTest {
    private static final int RUNS = 400;
    private static final int CALLS = 512;

    private final Check check;
    private final Random random;
    private final int[] answers;
    private final UpdateSteps real = new UpdateSteps();
    private final PlainModel model = new PlainModel();
    private final int run;
    private final int names;
    private final boolean isGrowing;
    private int call = 0;

    private RandomRunsTest(Check check, int run, int[] answers) {
        this.check = check;
        this.run = run;
        this.answers = answers;
        random = new Random(run);
        names = 2 + random.nextInt(random.nextBoolean() ? 3 : 12);
        isGrowing = random.nextInt(3) > 0;
    }

    public static void main(String[] args) {
        Check check = new Check();
        int[] answers = new int[7];
        for (int run = 0; run < RUNS && check.isClean(); run++) {
            new RandomRunsTest(check, run, answers).go();
        }
        for (int reason = 1; reason <= 5; reason++) {
            boolean isReached = answers[1 + reason] >= 50;
            System.out.println(answers[1 + reason] + " of the random runs end with reason " + reason);
            check.due("enough runs that end with reason " + reason, true, () -> isReached);
        }
        check.end("RandomRunsTest");
    }

    private void go() {
        for (call = 0; call < CALLS && check.isClean(); call++) {
            int which = random.nextInt(100);
            if (which < 55) {
                build();
            } else if (which < 80) {
                perform();
            } else {
                ask();
            }
        }
    }

    private void same(String what, Check.Call asked, Check.Call due) {
        check.due("run " + run + ", call " + call + ", " + what, Check.answerOf(due), asked);
    }

    // One number in some hundred is wrong: edges and far ones.
    private int odd(int good) {
        int[] wrong = {-15, -14, -11, -10, -5, -4, -3, -2, -1, 7, 10, 12, 99, 100, 101, 256, 65536,
            Integer.MAX_VALUE, Integer.MIN_VALUE};
        return random.nextInt(150) == 0 ? wrong[random.nextInt(wrong.length)] : good;
    }

    private int graph() {
        return odd(random.nextInt(isGrowing ? 3 : 7));
    }

    private int name() {
        return odd(random.nextInt(40) == 0 ? 99 : random.nextInt(names));
    }

    private int variableOr(int other) {
        return random.nextInt(3) > 0 ? odd(-1 - random.nextInt(4)) : other;
    }

    private int lastStep() {
        int count = model.told(0);
        return odd(random.nextInt(4) == 0 ? random.nextInt(12) : count - 1);
    }

    private void build() {
        int which = random.nextInt(20);
        if (which < 8) {
            addStep();
        } else if (which < 12) {
            addTemplates(lastStep(), random.nextInt(3));
        } else if (which < 14) {
            addPattern(lastStep());
        } else if (which < 18) {
            addFileRow();
        } else {
            setFlags();
        }
    }

    // Growing runs come to the limits: little goes there, and what could end them early is rare.
    private int kind() {
        int[] growing = {0, 0, 2, 2, 2, 2, 6, 8, 8, 9};
        if (isGrowing && random.nextInt(20) > 0) {
            return growing[random.nextInt(growing.length)];
        }
        return random.nextInt(2) == 0 ? random.nextInt(3) : random.nextInt(10);
    }

    private void addStep() {
        int kind = odd(kind());
        int from = kind == 9 ? odd(random.nextInt(4)) : graph();
        int to = (kind == 3 || kind == 5) && random.nextInt(3) == 0 ? odd(-1 - random.nextInt(2)) : graph();
        same("step(" + kind + ", " + from + ", " + to + ")",
                () -> real.step(kind, from, to), () -> model.step(kind, from, to));
        for (int i = kind == 2 ? random.nextInt(4) : 0; i > 0; i--) {
            addPattern(model.told(0) - 1);
        }
        for (int i = kind <= 2 ? random.nextInt(3) : 0; i > 0; i--) {
            addTemplates(model.told(0) - 1, kind);
        }
    }

    // Rows that suit the kind, but for some.
    private void addTemplates(int step, int kind) {
        boolean adds = odd(kind) != 1 && random.nextInt(isGrowing || kind == 0 ? 12 : 3) > 0;
        boolean plain = kind == 1 || random.nextInt(3) == 0;
        for (int i = random.nextInt(4); i >= 0; i--) {
            int s = plain ? name() : term(kind, adds);
            int p = plain || random.nextInt(4) > 0 ? name() : term(kind, random.nextInt(12) == 0);
            int o = plain ? name() : term(kind, adds);
            same("template(" + step + ", " + s + ", " + p + ", " + o + ", " + adds + ")",
                    () -> real.template(step, s, p, o, adds), () -> model.template(step, s, p, o, adds));
        }
    }

    private int term(int kind, boolean mayBeNew) {
        int other = mayBeNew && random.nextInt(6) == 0 ? odd(-11 - random.nextInt(4)) : name();
        return kind == 2 || random.nextInt(12) == 0 ? variableOr(other) : other;
    }

    private void addPattern(int step) {
        int s = variableOr(name());
        int p = variableOr(name());
        int o = variableOr(name());
        same("pattern(" + step + ", " + s + ", " + p + ", " + o + ")",
                () -> real.pattern(step, s, p, o), () -> model.pattern(step, s, p, o));
    }

    private void addFileRow() {
        int file = odd(random.nextInt(4));
        int s = name();
        int p = name();
        int o = name();
        same("file(" + file + ", " + s + ", " + p + ", " + o + ")",
                () -> real.file(file, s, p, o), () -> model.file(file, s, p, o));
    }

    private void setFlags() {
        boolean on = random.nextInt(4) > 0;
        int step = lastStep();
        int file = odd(random.nextInt(4));
        boolean isTorn = random.nextInt(6) == 0;
        same("silent(" + step + ", " + on + ")", () -> real.silent(step, on), () -> model.silent(step, on));
        same("torn(" + file + ", " + isTorn + ")", () -> real.torn(file, isTorn), () -> model.torn(file, isTorn));
    }

    private void perform() {
        int answer = model.run();
        answers[answer >= 0 ? 0 : -answer]++;
        same("run()", real::run, () -> answer);
        compareAll();
        if (random.nextInt(3) > 0) {
            same("clear()", real::clear, model::clear);
            compareAll();
        }
    }

    private void compareAll() {
        same("fails()", real::fails, model::fails);
        for (int i = -1; i <= 5; i++) {
            int what = i;
            same("told(" + what + ")", () -> real.told(what), () -> model.told(what));
        }
        for (int i = 0; i < model.told(0); i++) {
            int step = i;
            same("solutions(" + step + ")", () -> real.solutions(step), () -> model.solutions(step));
        }
        for (int graph = 0; graph < 7; graph++) {
            compareGraph(graph);
        }
        for (int i = 0; i < model.told(3); i++) {
            for (int j = 0; j <= 4; j++) {
                int change = i;
                int what = j;
                same("changed(" + change + ", " + what + ")",
                        () -> real.changed(change, what), () -> model.changed(change, what));
            }
        }
    }

    private void compareGraph(int graph) {
        same("many(" + graph + ")", () -> real.many(graph), () -> model.many(graph));
        for (int i = 0; i < model.many(graph); i++) {
            for (int j = 0; j <= 2; j++) {
                int fact = i;
                int what = j;
                same("at(" + graph + ", " + fact + ", " + what + ")",
                        () -> real.at(graph, fact, what), () -> model.at(graph, fact, what));
            }
        }
    }

    private void ask() {
        int graph = graph();
        int i = odd(random.nextInt(12));
        int what = odd(random.nextInt(5));
        int s = name();
        int p = name();
        int o = name();
        same("many(" + graph + ")", () -> real.many(graph), () -> model.many(graph));
        same("at(" + graph + ", " + i + ", " + what + ")",
                () -> real.at(graph, i, what), () -> model.at(graph, i, what));
        same("has(" + graph + ", " + s + ", " + p + ", " + o + ")",
                () -> real.has(graph, s, p, o), () -> model.has(graph, s, p, o));
        same("changed(" + i + ", " + what + ")", () -> real.changed(i, what), () -> model.changed(i, what));
        same("solutions(" + i + ")", () -> real.solutions(i), () -> model.solutions(i));
        same("told(" + what + ")", () -> real.told(what), () -> model.told(what));
    }
}
