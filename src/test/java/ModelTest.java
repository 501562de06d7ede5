import java.util.Random;

/** Random runs of calls, each answer beside what the model says; the seeds are fixed. */
public final class ModelTest {
    private static final Checks checks = new Checks("ModelTest");

    private final Random random;
    private final AnswerSums sums = new AnswerSums();
    private final Model model = new Model();
    private final StringBuilder calls = new StringBuilder();

    private ModelTest(long seed) {
        random = new Random(seed);
    }

    public static void main(String[] args) {
        for (int seed = 0; seed < 400; seed++) {
            new ModelTest(seed).bigRun();
        }
        for (int seed = 0; seed < 2500; seed++) {
            new ModelTest(10000 + seed).smallRun();
        }
        checks.end();
    }

    private int below(int bound) {
        return random.nextInt(bound);
    }

    private void told(String call, long want, long got) {
        calls.append(call).append(' ');
        checks.due(calls.toString(), want, got);
    }

    private void addTask(long own, long period, int rank) {
        Model.Part part = new Model.Part(own, period);
        part.rank = rank;
        model.tasks.add(part);
        told("task(" + own + ", " + period + ", " + rank + ")", model.tasks.size(),
                Checks.task(sums, own, period, rank));
    }

    private void bigRun() {
        int count = 1 + below(6);
        int ranks = 1 + below(4);
        int scale = 1 + below(60);
        for (int i = 0; i < count; i++) {
            addTask(1 + below(scale), scale + below(scale * 20), below(ranks));
        }
        for (int round = 0; round < 3; round++) {
            for (int i = below(4); i > 0; i--) {
                change(scale);
            }
            compare();
        }
    }

    private void change(int scale) {
        int number = 1 + below(model.tasks.size());
        Model.Part task = model.task(number);
        switch (below(6)) {
            case 0:
                task.jitter = below(scale * 10);
                told("jitter(" + number + ", " + task.jitter + ")", 1, sums.jitter(number, task.jitter));
                break;
            case 1:
                task.together = 1 + below(below(2) == 0 ? 3 : 20);
                task.inner = 1 + below(2 * scale);
                told("burst(" + number + ", " + task.together + ", " + task.inner + ")", 1,
                        sums.burst(number, (int) task.together, task.inner));
                break;
            case 2:
                task.spin = below(scale);
                told("spin(" + number + ", " + task.spin + ")", 1, sums.spin(number, task.spin));
                break;
            case 3:
                long own = 1 + below(scale);
                long period = scale + below(scale * 20);
                if (model.interrupts.size() < 3) {
                    model.interrupts.add(new Model.Part(own, period));
                    told("interrupt(" + own + ", " + period + ")", model.interrupts.size(),
                            sums.interrupt(own, period));
                }
                break;
            default:
                int[] section = {1 + below(3), 1 + below(scale)};
                if (task.sections.size() < 10) {
                    task.sections.add(section);
                    told("section(" + number + ", " + section[0] + ", " + section[1] + ")",
                            task.sections.size(), sums.section(number, section[0], section[1]));
                }
        }
    }

    private void compare() {
        for (int number = 1; number <= model.tasks.size(); number++) {
            checks.due(calls + "answer(" + number + ")", model.answer(number), sums.answer(number));
            int row = below(4 + model.tasks.size() + model.interrupts.size()) - 1;
            int what = below(5) - 1;
            checks.due(calls + "reason(" + number + ", " + row + ", " + what + ")",
                    model.reason(number, row, what), sums.reason(number, row, what));
        }
        for (int side = 0; side < 4; side += 1 + below(4)) {
            checks.due(calls + "busy(" + side + ")", model.busy(side), sums.busy(side));
        }
        compareLonger(1 + below(model.tasks.size()));
    }

    /** What is told must do, one more must not, nor (now and then) anything above that. */
    private void compareLonger(int number) {
        String call = calls + "longer(" + number + ")";
        long longer = sums.longer(number);
        checks.due(call + " is there", model.allHaveAnswers(), longer >= 0);
        if (longer < 0) {
            checks.due(call, -1, longer);
            return;
        }
        Model.Part task = model.task(number);
        long own = task.own;
        task.own = own + longer;
        checks.due(call + " = " + longer + " does", true, task.own <= 1000 && model.allHaveAnswers());
        if (task.own < 1000) {
            task.own++;
            checks.due(call + " = " + longer + " is the most", false, model.allHaveAnswers());
            task.own += below(1001 - (int) task.own);
            checks.due(call + " = " + longer + ", but not " + (task.own - own), false,
                    model.allHaveAnswers());
        }
        task.own = own;
    }

    private void smallRun() {
        int count = 1 + below(3);
        int ranks = 1 + below(3);
        int room = 60;
        for (int i = 0; i < count; i++) {
            int period = 1 + below(Math.min(room, 12));
            room = Math.max(1, room / period);
            addTask(1 + below(Math.max(1, period / count)), period, below(ranks));
        }
        for (int round = 0; round < 3; round++) {
            for (int number = 0; number <= count + 1; number++) {
                checks.due(calls + "plain(" + number + ")", model.plain(number), sums.plain(number));
            }
            changeSmall(1 + below(count));
        }
    }

    private void changeSmall(int number) {
        Model.Part task = model.task(number);
        if (below(3) == 0) {
            task.inner = 1 + below((int) task.period + 5);
            told("burst(" + number + ", 1, " + task.inner + ")", 1, sums.burst(number, 1, task.inner));
        } else {
            task.phase = below((int) task.period + 1) - 1;
            told("offset(" + number + ", " + task.phase + ")", 1, sums.offset(number, task.phase));
        }
    }
}
